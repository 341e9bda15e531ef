/-! the call voyage -/
theorem RV.fr2 {c c' : Nat → Nat → Int32} {v : Nat} {V : Nat → Nat → Nat} (h : RV c v V) (hc : ∀ y, v ≤ y → y < v + 15 → c' y = c y) : RV c' v V := by
  have e : ∀ i, i < 15 → c' (v + i) = c (v + i) := fun i hi => hc _ (by omega) (by omega)
  obtain ⟨h1, h2, h3, h4, h5, h6, h7, h8, h9⟩ := h
  refine ⟨fun t ht => ?_, fun f hf => ?_, fun i hi => ?_, fun i hi => ?_, fun i hi => ?_, fun i hi => ?_, fun i hi => ?_, fun i hi => ?_, fun i hi => ?_⟩
  · rw [Nat.add_assoc, e _ (by omega), ← Nat.add_assoc]; exact h1 t ht
  · rw [show v = v + 0 from rfl, e 0 (by omega)]; exact h2 f hf
  · rw [e 2 (by omega)]; exact h3 i hi
  · rw [e 4 (by omega)]; exact h4 i hi
  · rw [e 6 (by omega)]; exact h5 i hi
  · rw [e 8 (by omega)]; exact h6 i hi
  · rw [e 10 (by omega)]; exact h7 i hi
  · rw [e 12 (by omega)]; exact h8 i hi
  · rw [e 14 (by omega)]; exact h9 i hi
theorem and255 (y : Int32) : y &&& 255 = nI (y.toBitVec.toNat &&& 255) := by
  have e : y = nI y.toBitVec.toNat := by
    apply Int32.toBitVec_inj.mp
    unfold nI
    rw [Int32.toBitVec_ofNat']
    simp
  rw [show (255 : Int32) = nI 255 from rfl]
  conv => lhs; rw [e]
  rw [N_and]
theorem GK_KT {V : Nat → Nat → Nat} (g : GV V) : GK V (KT V) := fun k hk => by
  have := g.2.2.2.2.1 k hk
  exact ⟨this.1, this.2.2.1, by show 0 < 2; decide⟩
section
variable {c : Nat → Nat → Int32} {j : Nat → Nat → Int64} {w : Nat → Nat} {m : Nat → Nat → Int32} {n : Nat → Nat → Int64} {V : Nat → Nat → Nat}
theorem F0_w9 {r : Nat} : pF (enc c j w m n) 0 10 9 (.ref r) = some (enc c j (va_up w 0 r) m n) := by
  have A : ∀ i, i < 15 → ([(2, 1), (2, 32), (2, 35), (2, 40), (2, 56), (2, 59), (2, 68), (2, 71), (2, 74), (3, 0), (3, 1), (0, 0), (0, 0), (0, 0), (0, 0)] : List (Nat × Nat))[i]? = some (3, 0) → i = 9 := by decide
  exact pF_w rfl rfl (noW_all (by decide)) fun i k h hk => by
    subst hk
    exact A i (List.getElem?_eq_some_iff.mp h).1 h
theorem F0_w10 {r : Nat} : pF (enc c j w m n) 0 10 10 (.ref r) = some (enc c j (va_up w 1 r) m n) := by
  have A : ∀ i, i < 15 → ([(2, 1), (2, 32), (2, 35), (2, 40), (2, 56), (2, 59), (2, 68), (2, 71), (2, 74), (3, 0), (3, 1), (0, 0), (0, 0), (0, 0), (0, 0)] : List (Nat × Nat))[i]? = some (3, 1) → i = 10 := by decide
  exact pF_w rfl rfl (noW_all (by decide)) fun i k h hk => by
    subst hk
    exact A i (List.getElem?_eq_some_iff.mp h).1 h
theorem F59_w3 {r : Nat} : pF (enc c j w m n) 59 6 3 (.ref r) = some (enc c j (va_up w 3 r) m n) := by
  have A : ∀ i, i < 5 → ([(2, 60), (2, 61), (2, 63), (3, 3), (0, 0)] : List (Nat × Nat))[i]? = some (3, 3) → i = 3 := by decide
  exact pF_w rfl rfl (noW_all (by decide)) fun i k h hk => by
    subst hk
    exact A i (List.getElem?_eq_some_iff.mp h).1 h
theorem c_begin (hv : isV (w 1)) (g : GV V) (hV : RV c (w 1) V) : ∃ c', X10_beginDraft 0 (enc c j w m n) = some (enc c' j (va_up (va_up (va_up w 0 (w 1)) 1 (w 0)) 3 (w 1)) m n) ∧ (∀ y, y ≠ 0 → (y < 35 ∨ 39 < y) → y ≠ 56 → c' y = c y) ∧ (∀ f, f ≠ 11 → f ≠ 13 → c' 0 f = c 0 f) ∧ c' 0 11 = 1 ∧ c' 0 13 = 0 ∧ c' 56 2 = 0 ∧ (∀ f, f ≠ 2 → c' 56 f = c 56 f) ∧ RK c' 35 V (KT V) (V 1) ∧ c' 35 2 = -1 := by
  have hv' : w 1 = 2 ∨ w 1 = 17 := hv
  have hV1 : RV (va_up c 0 (upd (c 0) 11 1)) (w 1) V := hV.fr2 fun y h1 _ => vup_ne _ _ (by omega)
  obtain ⟨c1, e1, f1, r1, z1⟩ := c_setAsTold (c := va_up c 0 (upd (c 0) 11 1)) (j := j) (w := va_up (va_up (va_up w 0 (w 1)) 1 (w 0)) 3 (w 1)) (m := m) (n := n) hv (Or.inl rfl) g hV1
  have w0 : va_up (va_up w 0 (w 1)) 1 (w 0) 0 = w 1 := by rw [vup_ne _ _ (by decide), vup_at]
  have w0' : va_up (va_up (va_up w 0 (w 1)) 1 (w 0)) 3 (w 1) 0 = w 1 := by rw [vup_ne _ _ (by decide)]; exact w0
  refine ⟨va_up (va_up c1 56 (upd (c1 56) 2 0)) 0 (upd (va_up c1 56 (upd (c1 56) 2 0) 0) 13 0), ?_, fun y h0 h1 h2 => ?_, fun f h1 h2 => ?_, ?_, ?_, ?_, fun f h => ?_, ?_, ?_⟩
  · unfold X10_beginDraft X0_forget
    rw [F0_9, ob_some, F0_10, ob_some, F0_w9, ob_some, F0_w10, ob_some, pZ_1, F0_p11, ob_some, F0_5, ob_some, F0_9, ob_some, w0, F59_w3, ob_some, F0_2, ob_some, F0_9, ob_some, w0', cVv_eq (isC_enc rfl), e1, ob_some, F0_4, ob_some, cVv_eq F56_is, F56_p2, ob_some, ob_some, F0_p13, ob_some]
  · rw [vup_ne _ _ h0, vup_ne _ _ h2, f1 y (by omega), vup_ne _ _ h0]
  · rw [vup_at, upd_ne h2, vup_ne _ _ (by decide), f1 0 (by omega), vup_at, upd_ne h1]
  · rw [vup_at, upd_ne (by decide), vup_ne _ _ (by decide), f1 0 (by omega), vup_at, upd_at]
  · rw [vup_at, upd_at]
  · rw [vup_ne _ _ (by decide), vup_at, upd_at]
  · rw [vup_ne _ _ (by decide), vup_at, upd_ne h, f1 56 (by omega), vup_ne _ _ (by decide)]
  · exact r1.fr (by rw [vup_ne _ _ (by decide), vup_ne _ _ (by decide)]) (by rw [vup_ne _ _ (by decide), vup_ne _ _ (by decide)])
  · rw [vup_ne _ _ (by decide), vup_ne _ _ (by decide)]; exact z1
theorem INV_keep {c2 : Nat → Nat → Int32} {w2 : Nat → Nat} {m2 : Nat → Nat → Int32} (b1 : (w 0 = 2 ∧ w 1 = 17) ∨ (w 0 = 17 ∧ w 1 = 2)) (hr : (c 0 11 = 0 ∧ m 75 14 = 0 ∧ NOV c w m) ∨ (c 0 11 = 1 ∧ m 75 14 = 1 ∧ ∃ V K, UW c w m V K)) (w0 : w2 0 = w 0) (w3 : w2 3 = w 3) (fc : ∀ y, y ≠ 0 → y ≠ 32 → (y < w 1 ∨ w 1 + 15 ≤ y) → y < 59 → c2 y = c y) (f0 : ∀ f, f ≠ 12 → f ≠ 14 → c2 0 f = c 0 f) (fm : ∀ y, y = 78 ∨ y = 80 ∨ y = 82 ∨ y = 83 ∨ y = 84 → m2 y = m y) (ff : ∀ f, f = 14 ∨ f = 22 ∨ f = 23 → m2 75 f = m 75 f) : (c2 0 11 = 0 ∧ m2 75 14 = 0 ∧ NOV c2 w2 m2) ∨ (c2 0 11 = 1 ∧ m2 75 14 = 1 ∧ ∃ V K, UW c2 w2 m2 V K) := by
  rw [f0 11 (by decide) (by decide), ff 14 (by omega)]
  rcases hr with ⟨r1, r2, n1, n2, n3, n4, n5, n6, n7, l, l1, l2⟩ | ⟨r1, r2, V, K, hC, hM, hA, hI⟩
  · refine Or.inl ⟨r1, r2, fun t ht => ?_, ?_, ?_, ?_, ?_, ?_, ?_, l, l1, ?_⟩
    · rw [w0, fc _ (by omega) (by omega) (by omega) (by omega)]; exact n1 t ht
    · rw [w0, fc _ (by omega) (by omega) (by omega) (by omega)]; exact n2
    · rw [w0, fc _ (by omega) (by omega) (by omega) (by omega)]; exact n3
    · rw [f0 13 (by decide) (by decide)]; exact n4
    · rw [ff 23 (by omega)]; exact n5
    · rw [fc 56 (by omega) (by omega) (by omega) (by omega)]; exact n6
    · rw [ff 22 (by omega)]; exact n7
    · rw [fc 56 (by omega) (by omega) (by omega) (by omega)]; exact l2
  · obtain ⟨hv, hw, g, hV, gk, hK, h2⟩ := hC
    refine Or.inr ⟨r1, r2, V, K, ⟨by rw [w0]; exact hv, by rw [w3, w0]; exact hw, g, ?_, gk, ?_, ?_⟩, ⟨hM.1, hM.2.1, hM.2.2.1.fr (fm 78 (by omega)), hM.2.2.2.1.fr (fm 80 (by omega)), hM.2.2.2.2.fr (fm 82 (by omega))⟩, hA.q (fc 56 (by omega) (by omega) (by omega) (by omega)) (fc 58 (by omega) (by omega) (by omega) (by omega)) (ff 22 (by omega)) (fm 83 (by omega)), hI.q (f0 13 (by decide) (by decide)) (fun y p q => fc y (by omega) (by omega) (by omega) (by omega)) (ff 23 (by omega)) (fm 84 (by omega))⟩
    · rw [w0]; exact hV.fr2 fun y p q => fc y (by omega) (by omega) (by omega) (by omega)
    · exact hK.fr (fc _ (by omega) (by omega) (by omega) (by omega)) (fc _ (by omega) (by omega) (by omega) (by omega))
    · rw [fc 35 (by omega) (by omega) (by omega) (by omega)]; exact h2
theorem k_voyage (I : INV c w m) (x : Int32) : CALL (X10_voyage 0 x) (X11_voyage 75 x) c j w m n := by
  obtain ⟨⟨b1, b2, ⟨t, t1, t2, t3, t4⟩, b4, b5, b6⟩, hr⟩ := id I
  have hv : isV (w 1) := by
    rcases b1 with q | q
    · exact Or.inr q.2
    · exact Or.inl q.2
  have hv' : (w 0 = 2 ∧ w 1 = 17) ∨ (w 0 = 17 ∧ w 1 = 2) := b1
  rcases n_dec x (t + 1) (by omega) with ⟨N, hN, rfl⟩ | hx
  · have hT : ∀ i, ((c 1 i).toBitVec.toNat &&& 255) < 256 := fun i => Nat.lt_of_le_of_lt Nat.and_le_right (by decide)
    -- the class
    have c1o : ∀ y, y ≠ 0 → va_up (rf c 0) 0 (upd (rf c 0 0) 12 0) y = c y := fun y hy => by rw [vup_ne _ _ hy, rf_o hy]
    have c1f : ∀ f, f ≠ 12 → f ≠ 14 → va_up (rf c 0) 0 (upd (rf c 0 0) 12 0) 0 f = c 0 f := fun f h1 h2 => by rw [vup_at, upd_ne h1, rf_f h2]
    obtain ⟨c', j', e1, r1⟩ := c_read (c := va_up (rf c 0) 0 (upd (rf c 0 0) 12 0)) (j := j) (w := w) (m := m) (n := n) (v := w 1) (T := fun i => (c 1 i).toBitVec.toNat &&& 255) hv (N := N) (by omega) hT (fun i hi => by rw [c1o 1 (by decide)]; exact and255 _)
    have S : X10_voyage 0 (nI N) (enc c j w m n) = (if c' 32 11 = 0 then X10_voyage_B59 0 0 0 (enc c' j' (va_up w 2 (w 1)) m n) else X10_voyage_B59 0 0 4 (enc c' j' (va_up w 2 (w 1)) m n)) := by
      unfold X10_voyage X10_voyage_B18
      rw [if_neg (by rw [N_lt0 (by omega)]; exact id), F0_12, ob_some, t2, if_pos (by rw [N_le (by omega) (by omega)]; omega), cV0, c_ref0, bd_eq, if_pos rfl, F0_p12, ob_some, F0_1, ob_some, F0_10, ob_some, cVv32, e1, ob_some, F0_1, ob_some, F32_11, ob_some]
    -- the reference
    have g75 : ∀ f, f ≠ 0 → f ≠ 11 → gd m 75 f = m 75 f := fun f h1 h2 => gd_f h1 h2
    have R : ∀ (c2 : Nat → Nat → Int32) (j2 : Nat → Nat → Int64) (w2 : Nat → Nat), ∃ r m' m0, X11_voyage 75 (nI N) (enc c2 j2 w2 m n) = some (r, enc c2 j2 w2 m' n) ∧ (∀ y, y ≠ 75 → y ≠ 77 → y ≠ 79 → y ≠ 81 → m0 y = m y) ∧ (∀ f, 13 < f → m0 75 f = m 75 f) ∧ m0 75 2 = 0 ∧ m0 75 11 = 0 ∧ MR m0 (rdA (fun i => (c 1 i).toBitVec.toNat &&& 255) N 1000 V0 0) r m' := by
      intro c2 j2 w2
      obtain ⟨r, m', m0, e2, f2, g2, r2⟩ := m_read (c := c2) (j := j2) (w := w2) (m := va_up (va_up (va_up (gd m) 75 (upd (gd m 75) 2 0)) 75 (upd (va_up (gd m) 75 (upd (gd m 75) 2 0) 75) 9 0)) 75 (upd (va_up (va_up (gd m) 75 (upd (gd m 75) 2 0)) 75 (upd (va_up (gd m) 75 (upd (gd m 75) 2 0) 75) 9 0) 75) 13 0)) (n := n) (T := fun i => (c 1 i).toBitVec.toNat &&& 255) (N := N) (by omega) hT (by rw [v75 (by decide), u75]) u75 (fun i hi => by rw [w75 (by decide), w75 (by decide), w75 (by decide), gd_o (by decide), ← t4 i (by omega)]; exact and255 _)
      refine ⟨r, m', m0, ?_, fun y h1 h2 h3 h4 => by rw [f2 y h1 h2 h3 h4, w75 h1, w75 h1, w75 h1, gd_o h1], fun f hf => by rw [g2 f (by omega) (by omega) (by omega) (by omega) (by omega) (by omega), v75 (by omega), v75 (by omega), v75 (by omega), gd_f (by omega) (by omega)], by rw [g2 2 (by decide) (by decide) (by decide) (by decide) (by decide) (by decide), v75 (by decide), v75 (by decide), u75], by rw [g2 11 (by decide) (by decide) (by decide) (by decide) (by decide) (by decide), v75 (by decide), v75 (by decide), v75 (by decide), gd_t], r2⟩
      unfold X11_voyage
      rw [cVv75, m_good, ob_some, I75_2, ob_some, gd_f (by decide) (by decide), t3, show X11_in (nI N) 0 (nI t) _ = _ from m_in1 (a := 0) (by omega) (by omega) (by omega) _, bd_eq, if_neg (by decide), P75_2, ob_some, P75_9, ob_some, pZ_0, P75_13, ob_some, e2]
    have w0 : va_up w 2 (w 1) 0 = w 0 := vup_ne _ _ (by decide)
    have w1 : va_up w 2 (w 1) 1 = w 1 := vup_ne _ _ (by decide)
    have w3 : va_up w 2 (w 1) 3 = w 3 := vup_ne _ _ (by decide)
    cases e : rdA (fun i => (c 1 i).toBitVec.toNat &&& 255) N 1000 V0 0 with
    | inl o =>
      obtain ⟨f, q⟩ := o
      rw [e] at r1
      obtain ⟨hf0, hf8, FCc, x11, x12⟩ := r1
      obtain ⟨r, m', m0, e2, f2, g2, z2, z11, r2⟩ := R (rf c' 4) j' (va_up w 2 (w 1))
      rw [e] at r2
      obtain ⟨rfl, m1, rfl, F1, y13, y9, y10⟩ := r2
      have c0 : c' 0 = va_up (rf c 0) 0 (upd (rf c 0 0) 12 0) 0 := FCc 0 (by decide) (by omega)
      refine ⟨-1, rf c' 4, j', va_up w 2 (w 1), tb m1 4, n, ?_, e2, ⟨by rw [w0, w1]; exact b1, by rw [w3, w0]; exact b2, ⟨0, by decide, ?_, ?_, fun i hi => absurd hi (Nat.not_lt_zero _)⟩, by rw [rf_t, tb_t], ?_, fun _ => ?_⟩, INV_keep b1 hr w0 w3 (fun y h1 h2 h3 _ => by rw [rf_o h1, FCc y h2 h3, c1o y h1]) (fun f h1 h2 => by rw [rf_f h2, c0]; exact c1f f h1 h2) (fun y hy => by rw [tb_o (by omega), F1.1 y (by omega) (by omega) (by omega) (by omega), f2 y (by omega) (by omega) (by omega) (by omega)]) (fun f hf => by rw [tb_f (by omega), F1.2 f (by omega) (by omega) (by omega) (by omega) (by omega) (by omega) (by omega) (by omega), g2 f (by omega)])⟩
      · rw [S, if_neg (by rw [x11, show (0 : Int32) = nI 0 from rfl, N_inj (by omega) (by omega)]; exact hf0)]
        unfold X10_voyage_B59
        rw [cV0, c_ref1 (by decide), bd_eq, if_neg (by decide)]
      · rw [rf_f (by decide), c0, vup_at, upd_at]; rfl
      · rw [tb_f (by decide), F1.2 2 (by decide) (by decide) (by decide) (by decide) (by decide) (by decide) (by decide) (by decide), z2]; rfl
      · rw [rf_o (by decide), x11, tb_f (by decide), y9]
      · rw [rf_o (by decide), x12, tb_f (by decide), y10]
    | inr o =>
      obtain ⟨V, p⟩ := o
      rw [e] at r1
      obtain ⟨JCc, gP, gV⟩ := r1
      have FCc := JCc.2.2.2.2.1
      have c0 : c' 0 = va_up (rf c 0) 0 (upd (rf c 0 0) 12 0) 0 := FCc 0 (by decide) (by omega)
      have hV : RV (rf c' 0) (w 1) V := JCc.2.2.2.2.2.1.rv.fr2 fun y h1 _ => rf_o (by omega)
      obtain ⟨c2, e3, f3, g3, h11, h13, h562, h56, hK, h35⟩ := c_begin (c := rf c' 0) (j := j') (w := va_up w 2 (w 1)) (m := m) (n := n) (by rw [w1]; exact hv) gV (by rw [w1]; exact hV)
      rw [w1, w0] at e3
      obtain ⟨r, m', m0, e2, f2, g2, z2, z11, r2⟩ := R c2 j' (va_up (va_up (va_up (va_up w 2 (w 1)) 0 (w 1)) 1 (w 0)) 3 (w 1))
      rw [e] at r2
      obtain ⟨rfl, hMV, hM80, hM82, ⟨y14, y22, y23, y9⟩, FGm⟩ := r2
      have W0 : va_up (va_up (va_up (va_up w 2 (w 1)) 0 (w 1)) 1 (w 0)) 3 (w 1) 0 = w 1 := by rw [vup_ne _ _ (by decide), vup_ne _ _ (by decide), vup_at]
      have W1 : va_up (va_up (va_up (va_up w 2 (w 1)) 0 (w 1)) 1 (w 0)) 3 (w 1) 1 = w 0 := by rw [vup_ne _ _ (by decide), vup_at]
      have W3 : va_up (va_up (va_up (va_up w 2 (w 1)) 0 (w 1)) 1 (w 0)) 3 (w 1) 3 = w 1 := vup_at _ _ _
      have hV2 : RV c2 (w 1) V := hV.fr2 fun y h1 h2 => f3 y (by omega) (by omega) (by omega)
      obtain ⟨l, l1, l2⟩ : ∃ l, l < 16 ∧ c 56 1 = nI l := by
        rcases hr with ⟨_, _, _, _, _, _, _, _, _, l, l1, l2⟩ | ⟨_, _, _, _, _, _, ⟨l, _, _, l1, _, l2, _⟩, _⟩
        · exact ⟨l, l1, l2⟩
        · exact ⟨l, l1, l2⟩
      refine ⟨nI (V 20 2), c2, j', _, m', n, ?_, e2, ⟨by rw [W0, W1]; omega, by rw [W3, W0], ⟨0, by decide, ?_, ?_, fun i hi => absurd hi (Nat.not_lt_zero _)⟩, ?_, ?_, fun z => ?_⟩, Or.inr ⟨h11, y14, V, KT V, ⟨by rw [W0]; exact hv, by rw [W3, W0], gV, by rw [W0]; exact hV2, GK_KT gV, hK, h35⟩, ⟨gV, GK_KT gV, hMV, hM80, hM82⟩, ⟨l, 0, fun _ => KT V, l1, by decide, ?_, h562, y22, rfl, fun i hi => absurd hi (Nat.not_lt_zero _)⟩, ⟨0, fun _ => KT V, by decide, h13, y23, fun i hi => absurd hi (Nat.not_lt_zero _)⟩⟩⟩
      · rw [S, if_pos JCc.2.2.2.1]
        unfold X10_voyage_B59
        rw [cV0, c_ref0, bd_eq, if_pos rfl, cVv0, e3, ob_some, F0_9, ob_some, W0, V_2 hv, ob_some, T_count (V_wats hv), ob_some]
        rw [show c2 (w 1 + 5) 3 = nI (V 20 2) from hV2.1 2 (by decide)]
      · rw [g3 12 (by decide) (by decide), rf_f (by decide), c0, vup_at, upd_at]; rfl
      · rw [FGm.2 2 (by decide) (by decide) (by decide) (by decide) (by decide) (by decide) (by decide) (by decide) (by decide) (by decide) (by decide), z2]; rfl
      · rw [g3 14 (by decide) (by decide), rf_t, FGm.2 11 (by decide) (by decide) (by decide) (by decide) (by decide) (by decide) (by decide) (by decide) (by decide) (by decide) (by decide), z11]
      · rw [f3 32 (by decide) (by decide) (by decide), rf_o (by decide), JCc.2.2.2.1, y9]
      · rw [g3 14 (by decide) (by decide), rf_t] at z; exact absurd z (by decide)
      · rw [h56 1 (by decide), rf_o (by decide), FCc 56 (by decide) (by omega), c1o 56 (by decide)]; exact l2
  · refine CALL.no I (x := 2) (by decide) (r := -1) ?_ ?_
    · unfold X10_voyage X10_voyage_B13 X10_voyage_B18
      have Z : (cV (enc c j w m n) 0 10 (X10_isRefused 0 2 (enc c j w m n)) fun v202 h201 => if v202 = 0 then (pF h201 0 10 12 (.int 0)).bind fun h203 => (gR h203 0 10 1).bind fun v204 => (gR h203 0 10 10).bind fun v205 => cVv h203 v204 5 (X5_read v204 x v205 h203) fun h206 => (gR h206 0 10 1).bind fun v207 => (gI h206 v207 5 11).bind fun v208 => if v208 = 0 then X10_voyage_B59 0 0 0 h206 else X10_voyage_B59 0 0 4 h206 else some (-1, h201)) = some (-1, enc (rf c 2) j w m n) := by
        rw [cV0, c_ref1 (by decide), bd_eq, if_neg (by decide)]
      rcases hx with q | ⟨q1, q2⟩
      · rw [if_pos q]; exact Z
      · rw [if_neg q1, F0_12, ob_some, t2, if_neg (by rw [le_lt (by omega) q1] at q2; exact Int32.not_le.mpr q2)]; exact Z
    · unfold X11_voyage
      rw [cVv75, m_good, ob_some, I75_2, ob_some, gd_f (by decide) (by decide), t3, m_in0 (by omega) hx, bd_eq, if_pos rfl, cV75, m_no, bd_eq]
end
