/-! the call voyage -/
theorem RV.fr2 {c c' : Nat → Nat → Int32} {v : Nat} {V : Nat → Nat → Nat} (h : RV c v V) (hc : ∀ y, v ≤ y → y < v + 15 → c' y = c y) : RV c' v V := by
  have e : ∀ i, i < 15 → c' (v + i) = c (v + i) := fun i hi => hc _ (by omega) (by omega)
  obtain ⟨h1, h2, h3, h4, h5, h6, h7, h8, h9⟩ := h
  refine ⟨fun t ht => ?_, fun f hf => ?_, fun i hi => ?_, fun i hi => ?_, fun i hi => ?_, fun i hi => ?_, fun i hi => ?_, fun i hi => ?_, fun i hi => ?_⟩
  · rw [Nat.add_assoc, e _ (by omega), ← Nat.add_assoc]; exact h1 t ht
  · rw [show v = v + 0 from rfl, e 0 (by omega)]; exact h2 f hf
  · rw [e 2 (by omega)]; exact h3 i hi
  · rw [e 4 (by omega)]; exact h4 i hi
  · rw [e 6 (by omega)]; exact h5 i hi
  · rw [e 8 (by omega)]; exact h6 i hi
  · rw [e 10 (by omega)]; exact h7 i hi
  · rw [e 12 (by omega)]; exact h8 i hi
  · rw [e 14 (by omega)]; exact h9 i hi
theorem and255 (y : Int32) : y &&& 255 = nI (y.toBitVec.toNat &&& 255) := by
  have e : y = nI y.toBitVec.toNat := by
    apply Int32.toBitVec_inj.mp
    unfold nI
    rw [Int32.toBitVec_ofNat']
    simp
  rw [show (255 : Int32) = nI 255 from rfl]
  conv => lhs; rw [e]
  rw [N_and]
theorem GK_KT {V : Nat → Nat → Nat} (g : GV V) : GK V (KT V) := fun k hk => by
  have := g.2.2.2.2.1 k hk
  exact ⟨this.1, this.2.2.1, by show 0 < 2; decide⟩
section
variable {c : Nat → Nat → Int32} {j : Nat → Nat → Int64} {w : Nat → Nat} {m : Nat → Nat → Int32} {n : Nat → Nat → Int64} {V : Nat → Nat → Nat}
theorem F0_w9 {r : Nat} : pF (enc c j w m n) 0 10 9 (.ref r) = some (enc c j (va_up w 0 r) m n) := by
  have A : ∀ i, i < 15 → ([(2, 1), (2, 32), (2, 35), (2, 40), (2, 56), (2, 59), (2, 68), (2, 71), (2, 74), (3, 0), (3, 1), (0, 0), (0, 0), (0, 0), (0, 0)] : List (Nat × Nat))[i]? = some (3, 0) → i = 9 := by decide
  exact pF_w rfl rfl (noW_all (by decide)) fun i k h hk => by
    subst hk
    exact A i (List.getElem?_eq_some_iff.mp h).1 h
theorem F0_w10 {r : Nat} : pF (enc c j w m n) 0 10 10 (.ref r) = some (enc c j (va_up w 1 r) m n) := by
  have A : ∀ i, i < 15 → ([(2, 1), (2, 32), (2, 35), (2, 40), (2, 56), (2, 59), (2, 68), (2, 71), (2, 74), (3, 0), (3, 1), (0, 0), (0, 0), (0, 0), (0, 0)] : List (Nat × Nat))[i]? = some (3, 1) → i = 10 := by decide
  exact pF_w rfl rfl (noW_all (by decide)) fun i k h hk => by
    subst hk
    exact A i (List.getElem?_eq_some_iff.mp h).1 h
theorem F59_w3 {r : Nat} : pF (enc c j w m n) 59 6 3 (.ref r) = some (enc c j (va_up w 3 r) m n) := by
  have A : ∀ i, i < 5 → ([(2, 60), (2, 61), (2, 63), (3, 3), (0, 0)] : List (Nat × Nat))[i]? = some (3, 3) → i = 3 := by decide
  exact pF_w rfl rfl (noW_all (by decide)) fun i k h hk => by
    subst hk
    exact A i (List.getElem?_eq_some_iff.mp h).1 h
theorem c_begin (hv : isV (w 1)) (g : GV V) (hV : RV c (w 1) V) : ∃ c', X10_beginDraft 0 (enc c j w m n) = some (enc c' j (va_up (va_up (va_up w 0 (w 1)) 1 (w 0)) 3 (w 1)) m n) ∧ (∀ y, y ≠ 0 → (y < 35 ∨ 39 < y) → y ≠ 56 → c' y = c y) ∧ (∀ f, f ≠ 11 → f ≠ 13 → c' 0 f = c 0 f) ∧ c' 0 11 = 1 ∧ c' 0 13 = 0 ∧ c' 56 2 = 0 ∧ (∀ f, f ≠ 2 → c' 56 f = c 56 f) ∧ RK c' 35 V (KT V) (V 1) ∧ c' 35 2 = -1 := by
  have hv' : w 1 = 2 ∨ w 1 = 17 := hv
  have hV1 : RV (va_up c 0 (upd (c 0) 11 1)) (w 1) V := hV.fr2 fun y h1 _ => vup_ne _ _ (by omega)
  obtain ⟨c1, e1, f1, r1, z1⟩ := c_setAsTold (c := va_up c 0 (upd (c 0) 11 1)) (j := j) (w := va_up (va_up (va_up w 0 (w 1)) 1 (w 0)) 3 (w 1)) (m := m) (n := n) hv (Or.inl rfl) g hV1
  have w0 : va_up (va_up w 0 (w 1)) 1 (w 0) 0 = w 1 := by rw [vup_ne _ _ (by decide), vup_at]
  have w0' : va_up (va_up (va_up w 0 (w 1)) 1 (w 0)) 3 (w 1) 0 = w 1 := by rw [vup_ne _ _ (by decide)]; exact w0
  refine ⟨va_up (va_up c1 56 (upd (c1 56) 2 0)) 0 (upd (va_up c1 56 (upd (c1 56) 2 0) 0) 13 0), ?_, fun y h0 h1 h2 => ?_, fun f h1 h2 => ?_, ?_, ?_, ?_, fun f h => ?_, ?_, ?_⟩
  · unfold X10_beginDraft X0_forget
    rw [F0_9, ob_some, F0_10, ob_some, F0_w9, ob_some, F0_w10, ob_some, pZ_1, F0_p11, ob_some, F0_5, ob_some, F0_9, ob_some, w0, F59_w3, ob_some, F0_2, ob_some, F0_9, ob_some, w0', cVv_eq (isC_enc rfl), e1, ob_some, F0_4, ob_some, cVv_eq F56_is, F56_p2, ob_some, ob_some, F0_p13, ob_some]
  · rw [vup_ne _ _ h0, vup_ne _ _ h2, f1 y (by omega), vup_ne _ _ h0]
  · rw [vup_at, upd_ne h2, vup_ne _ _ (by decide), f1 0 (by omega), vup_at, upd_ne h1]
  · rw [vup_at, upd_ne (by decide), vup_ne _ _ (by decide), f1 0 (by omega), vup_at, upd_at]
  · rw [vup_at, upd_at]
  · rw [vup_ne _ _ (by decide), vup_at, upd_at]
  · rw [vup_ne _ _ (by decide), vup_at, upd_ne h, f1 56 (by omega), vup_ne _ _ (by decide)]
  · exact r1.fr (by rw [vup_ne _ _ (by decide), vup_ne _ _ (by decide)]) (by rw [vup_ne _ _ (by decide), vup_ne _ _ (by decide)])
  · rw [vup_ne _ _ (by decide), vup_ne _ _ (by decide)]; exact z1
theorem k_voyage (I : INV c w m) (x : Int32) : CALL (X10_voyage 0 x) (X11_voyage 75 x) c j w m n := by
  obtain ⟨⟨b1, b2, ⟨t, t1, t2, t3, t4⟩, b4, b5, b6⟩, hr⟩ := id I
  have hv : isV (w 1) := by
    rcases b1 with q | q
    · exact Or.inr q.2
    · exact Or.inl q.2
  have hv' : (w 0 = 2 ∧ w 1 = 17) ∨ (w 0 = 17 ∧ w 1 = 2) := b1
  rcases n_dec x (t + 1) (by omega) with ⟨N, hN, rfl⟩ | hx
  · have hT : ∀ i, ((c 1 i).toBitVec.toNat &&& 255) < 256 := fun i => Nat.lt_of_le_of_lt Nat.and_le_right (by decide)
    -- the class
    have c1o : ∀ y, y ≠ 0 → va_up (rf c 0) 0 (upd (rf c 0 0) 12 0) y = c y := fun y hy => by rw [vup_ne _ _ hy, rf_o hy]
    have c1f : ∀ f, f ≠ 12 → f ≠ 14 → va_up (rf c 0) 0 (upd (rf c 0 0) 12 0) 0 f = c 0 f := fun f h1 h2 => by rw [vup_at, upd_ne h1, rf_f h2]
    obtain ⟨c', j', e1, r1⟩ := c_read (c := va_up (rf c 0) 0 (upd (rf c 0 0) 12 0)) (j := j) (w := w) (m := m) (n := n) (v := w 1) (T := fun i => (c 1 i).toBitVec.toNat &&& 255) hv (N := N) (by omega) hT (fun i hi => by rw [c1o 1 (by decide)]; exact and255 _)
    have S : X10_voyage 0 (nI N) (enc c j w m n) = (if c' 32 11 = 0 then X10_voyage_B59 0 0 0 (enc c' j' (va_up w 2 (w 1)) m n) else X10_voyage_B59 0 0 4 (enc c' j' (va_up w 2 (w 1)) m n)) := by
      unfold X10_voyage X10_voyage_B18
      rw [if_neg (by rw [N_lt0 (by omega)]; exact id), F0_12, ob_some, t2, if_pos (by rw [N_le (by omega) (by omega)]; omega), cV0, c_ref0, bd_eq, if_pos rfl, F0_p12, ob_some, F0_1, ob_some, F0_10, ob_some, cVv32, e1, ob_some, F0_1, ob_some, F32_11, ob_some]
    -- the reference
    have g75 : ∀ f, f ≠ 0 → f ≠ 11 → gd m 75 f = m 75 f := fun f h1 h2 => gd_f h1 h2
    obtain ⟨r, m', m0, e2, f2, g2, r2⟩ := m_read (c := c') (j := j') (w := va_up w 2 (w 1)) (m := va_up (va_up (va_up (gd m) 75 (upd (gd m 75) 2 0)) 75 (upd (va_up (gd m) 75 (upd (gd m 75) 2 0) 75) 9 0)) 75 (upd (va_up (va_up (gd m) 75 (upd (gd m 75) 2 0)) 75 (upd (va_up (gd m) 75 (upd (gd m 75) 2 0) 75) 9 0) 75) 13 0)) (n := n) (T := fun i => (c 1 i).toBitVec.toNat &&& 255) (N := N) (by omega) hT (by rw [v75 (by decide), u75]) u75 (fun i hi => by rw [w75 (by decide), w75 (by decide), w75 (by decide), gd_o (by decide), ← t4 i (by omega)]; exact and255 _)
    sorry
  · refine CALL.no I (x := 2) (by decide) (r := -1) ?_ ?_
    · unfold X10_voyage X10_voyage_B13 X10_voyage_B18
      have Z : (cV (enc c j w m n) 0 10 (X10_isRefused 0 2 (enc c j w m n)) fun v202 h201 => if v202 = 0 then (pF h201 0 10 12 (.int 0)).bind fun h203 => (gR h203 0 10 1).bind fun v204 => (gR h203 0 10 10).bind fun v205 => cVv h203 v204 5 (X5_read v204 x v205 h203) fun h206 => (gR h206 0 10 1).bind fun v207 => (gI h206 v207 5 11).bind fun v208 => if v208 = 0 then X10_voyage_B59 0 0 0 h206 else X10_voyage_B59 0 0 4 h206 else some (-1, h201)) = some (-1, enc (rf c 2) j w m n) := by
        rw [cV0, c_ref1 (by decide), bd_eq, if_neg (by decide)]
      rcases hx with q | ⟨q1, q2⟩
      · rw [if_pos q]; exact Z
      · rw [if_neg q1, F0_12, ob_some, t2, if_neg (by rw [le_lt (by omega) q1] at q2; exact Int32.not_le.mpr q2)]; exact Z
    · unfold X11_voyage
      rw [cVv75, m_good, ob_some, I75_2, ob_some, gd_f (by decide) (by decide), t3, m_in0 (by omega) hx, bd_eq, if_pos rfl, cV75, m_no, bd_eq]
end
