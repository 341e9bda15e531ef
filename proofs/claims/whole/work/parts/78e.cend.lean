/-! the class reads a whole voyage -/
def CE (c0 : Nat → Nat → Int32) (v : Nat) (T : Nat → Nat) (s : Nat) (o : Out) (c' : Nat → Nat → Int32) (j' : Nat → Nat → Int64) : Prop := match o with
  | Sum.inl (f, x) => f ≠ 0 ∧ f < 8 ∧ BC c0 c' v f x
  | Sum.inr (V, p) => JC c0 c' j' v T s V p ∧ GP T V ∧ GV V
section
variable {c0 c : Nat → Nat → Int32} {j : Nat → Nat → Int64} {w : Nat → Nat} {m : Nat → Nat → Int32} {n : Nat → Nat → Int64} {T : Nat → Nat} {s p v : Nat} {V : Nat → Nat → Nat}
theorem c_later (hv : isV v) (h : RV2 c v V) (g : GP T V) {t : Nat} (ht : t < 7) (hb : ∀ i, i < V 20 t → colV V t 0 i < 1000) : X9_isLaterThanAll v (v + 1 + 2 * t) 0 (enc c j w m n) = some (if (∃ i, i < V 20 t ∧ V 20 2 < colV V t 0 i) then 1 else 0, enc c j w m n) := by
  obtain ⟨l1, l2, l3⟩ := cap_le t ht
  have k1 := g.1 t ht
  have k2 := g.1 2 (by decide)
  have k2' : cap 2 = 12 := rfl
  obtain ⟨f1, f2, f3⟩ := fdx_ok (fun i => decide (V 20 2 < colV V t 0 i)) (V 20 t)
  refine loop_up (z := fun _ _ _ _ _ => none) (s := X9_isLaterThanAll_L2_s) (fdx (fun i => decide (V 20 2 < colV V t 0 i)) (V 20 t)) (fun i f => f v (v + 1 + 2 * t) 0 (nI i) (enc c j w m n) = some (if (∃ i, i < V 20 t ∧ V 20 2 < colV V t 0 i) then 1 else 0, enc c j w m n)) ?_ ?_ 5000 0 (Nat.zero_le _) (by omega)
  · intro i f hi ih
    have y := of_decide_eq_false (f2 i hi)
    have b := hb i (by omega)
    have e0 : c (v + 2 + 2 * t) (i * wdt t) = nI (colV V t 0 i) := h.2.2 t ht i (by omega) 0 l2
    unfold X9_isLaterThanAll_L2_s
    rw [r_cnt hv h ht, ob_some, if_neg (by rw [N_le (by omega) (by omega)]; omega), cV_eq (T_is (V_T hv ht)), T_cell0 (V_T hv ht) (by omega) l2, bd_eq, V_2 hv, ob_some, r_cW hv h, ob_some, e0, if_pos (by rw [N_le (by omega) (by omega)]; omega), show nI i + 1 = nI (i + 1) from N_add i 1]
    exact ih
  · intro f
    unfold X9_isLaterThanAll_L2_s
    by_cases q : fdx (fun i => decide (V 20 2 < colV V t 0 i)) (V 20 t) < V 20 t
    · have y := of_decide_eq_true (f3 q)
      have b := hb _ q
      have e0 : c (v + 2 + 2 * t) (fdx (fun i => decide (V 20 2 < colV V t 0 i)) (V 20 t) * wdt t) = nI (colV V t 0 (fdx (fun i => decide (V 20 2 < colV V t 0 i)) (V 20 t))) := h.2.2 t ht _ q 0 l2
      rw [r_cnt hv h ht, ob_some, if_neg (by rw [N_le (by omega) (by omega)]; omega), cV_eq (T_is (V_T hv ht)), T_cell0 (V_T hv ht) (by omega) l2, bd_eq, V_2 hv, ob_some, r_cW hv h, ob_some, e0, if_neg (by rw [N_le (by omega) (by omega)]; omega), rZ_1, if_pos ⟨_, q, y⟩]
    · rw [r_cnt hv h ht, ob_some, if_pos (by rw [N_le (by omega) (by omega)]; omega), rZ_0, if_neg]
      rintro ⟨i, hi, y⟩
      have := of_decide_eq_false (f2 i (by omega))
      exact this y
theorem c_isLate (hv : isV v) (h : RV2 c v V) (g : GP T V) : X9_isLate v (enc c j w m n) = some (if latB V then 1 else 0, enc c j w m n) := by
  have A := c_later (j := j) (w := w) (m := m) (n := n) hv h g (t := 3) (by decide) (fun i hi => by have := g.2.2.2.2.2.2.2.2.1 i hi; show V 5 i < _; omega)
  have B := c_later (j := j) (w := w) (m := m) (n := n) hv h g (t := 6) (by decide) (fun i hi => by have := g.2.2.2.2.2.2.2.2.2.2.2.2.1 i hi; show V 9 i < _; omega)
  have A' : X9_isLaterThanAll v (v + 7) 0 (enc c j w m n) = some (if (∃ i, i < V 20 3 ∧ V 20 2 < V 5 i) then 1 else 0, enc c j w m n) := A
  have B' : X9_isLaterThanAll v (v + 13) 0 (enc c j w m n) = some (if (∃ i, i < V 20 6 ∧ V 20 2 < V 9 i) then 1 else 0, enc c j w m n) := B
  unfold X9_isLate X9_isLate_B24 latB
  rw [V_3 hv, ob_some, cV_eq (V_is hv), A', bd_eq]
  by_cases q : ∃ i, i < V 20 3 ∧ V 20 2 < V 5 i
  · rw [if_pos q, if_neg (by decide), rZ_1, decide_eq_true (Or.inl q)]; rfl
  · rw [if_neg q, if_pos rfl, V_6 hv, ob_some, cV_eq (V_is hv), B', bd_eq]
    by_cases q' : ∃ i, i < V 20 6 ∧ V 20 2 < V 9 i
    · rw [if_pos q', if_neg (by decide), rZ_1, decide_eq_true (Or.inr q')]; rfl
    · rw [if_neg q', if_pos rfl, rZ_0, decide_eq_false (fun z => z.elim q q')]; rfl
theorem c_B75 {f : Nat} (e : c 32 11 = nI f) (h0 : f ≠ 0) (h8 : f < 8) : X5_read_B75 32 (enc c j w m n) = some (enc c j w m n) := by
  unfold X5_read_B75
  rw [F32_11, ob_some, e, if_neg (by rw [show (0 : Int32) = nI 0 from rfl, N_inj (by omega) (by omega)]; exact h0)]
theorem c_jdg (hv : isV v) (hw : w 2 = v) (g : GP T V) (h : JC c0 c j v T s V (nxq T s p)) (e7 : c 32 7 = nI (stp T s p)) : ∃ c', X5_read_B75 32 (enc c j w m n) = some (enc c' j w m n) ∧ CE c0 v T s (jdg T s V p) c' j := by
  have h6 := h.2.2.2.2.2.1
  have k2 := g.1 2 (by decide)
  have k2' : cap 2 = 12 := rfl
  unfold X5_read_B75 X5_judgeWhole jdg
  rw [F32_11, ob_some, h.2.2.2.1, if_pos rfl, cVv32, F32_r3, ob_some, hw, V_2 hv, ob_some, r_cW hv h6, ob_some]
  by_cases q : V 20 2 = 0
  · obtain ⟨c1, e1, b1⟩ := c_fail (w := w) (m := m) (n := n) (f := 6) hv h e7
    rw [if_pos (by rw [q]; rfl), cV32, show X5_fail 32 6 _ = _ from e1, bd_eq, ob_some, if_pos q]
    exact ⟨c1, rfl, by decide, by decide, b1⟩
  · rw [if_neg (by rw [show (0 : Int32) = nI 0 from rfl, N_inj (by omega) (by omega)]; exact q), ob_some, cV_eq (V_is hv), c_isLate hv h6 g, bd_eq, if_neg q]
    cases l : latB V with
    | true =>
      obtain ⟨c1, e1, b1⟩ := c_fail (w := w) (m := m) (n := n) (f := 7) hv h e7
      rw [if_neg (by decide), cV32, show X5_fail 32 7 _ = _ from e1, bd_eq, ob_some]
      exact ⟨c1, rfl, by decide, by decide, b1⟩
    | false =>
      rw [if_pos (by decide), ob_some]
      exact ⟨c, rfl, h, g, gv_of g q l⟩
theorem c_lines (hv : isV v) (hw : w 2 = v) : ∀ (f : Nat) (V : Nat → Nat → Nat) (p : Nat) (c : Nat → Nat → Int32) (j : Nat → Nat → Int64) (q a : Nat), JC c0 c j v T s V p → GP T V → s - p < f → a + (s - p) ≤ 900 → s - p + 2 ≤ q → ∃ c' j', X5_read_L37 q 32 1 (nI a) (enc c j w m n) = some (enc c' j' w m n) ∧ CE c0 v T s (rdA T s f V p) c' j'
  | 0, _, _, _, _, _, _, _, _, h, _, _ => absurd h (Nat.not_lt_zero _)
  | f + 1, V, p, c, j, q, a, h, g, hf, ha, hq => by
    obtain ⟨q', rfl⟩ : ∃ q', q = q' + 2 := ⟨q - 2, by omega⟩
    have hp := h.2.2.1
    have n1 := nx_le (T := T) hp
    have CL := cl_line (w := w) (m := m) (n := n) hv hw g h
    have OP := op_ln hp g
    have Z : ∀ (x : Int32) (c1 : Nat → Nat → Int32) (j1 : Nat → Nat → Int64), X5_read_L37 (q' + 1) 32 0 x (enc c1 j1 w m n) = X5_read_B75 32 (enc c1 j1 w m n) := fun x c1 j1 => by
      show X5_read_L37_s (X5_read_L37 q') 32 0 x (enc c1 j1 w m n) = _
      unfold X5_read_L37_s
      rw [if_pos rfl]
    have S : X5_read_L37 (q' + 2) 32 1 (nI a) (enc c j w m n) = bd (X5_readLine 32 (enc c j w m n)) (fun v102 h101 => if v102 = 0 then X5_read_B67 (X5_read_L37 (q' + 1)) 32 (nI a) h101 else cV h101 32 5 (X5_isParted 32 h101) fun v104 h103 => if v104 = 0 then X5_read_B67 (X5_read_L37 (q' + 1)) 32 (nI a) h103 else X5_read_B68 (X5_read_L37 (q' + 1)) 32 (nI a) 1 h103) := by
      show X5_read_L37_s (X5_read_L37 (q' + 1)) 32 1 (nI a) (enc c j w m n) = _
      unfold X5_read_L37_s
      rw [if_neg (by decide), if_neg (by rw [show (900 : Int32) = nI 900 from rfl, N_lt (by omega) (by omega)]; omega), cV32]
    rw [S, rdA]
    cases e : ln T s V p with
    | inl x =>
      obtain ⟨fx, qx⟩ := x
      rw [e] at CL OP
      obtain ⟨c1, j1, e1, b1⟩ := CL
      refine ⟨c1, j1, ?_, OP.1, OP.2, b1⟩
      rw [e1, bd_eq, if_pos rfl]
      unfold X5_read_B67 X5_read_B68
      rw [Z, c_B75 b1.2.1 OP.1 OP.2]
    | inr x =>
      obtain ⟨V', p'⟩ := x
      rw [e] at CL OP
      obtain ⟨c1, j1, e1, h1⟩ := CL
      obtain ⟨g', o11, o1, o2⟩ := OP
      obtain ⟨c2, j2, e2, h2, d6, d7, d9, d8⟩ := c_rd (w := w) (m := m) (n := n) hv h1
      have s4 := srt_le (T := T) o2
      show ∃ c' j', _ = _ ∧ CE c0 v T s (aft T s V' p' (rdA T s f V' (nxq T s p'))) c' j'
      rw [e1, bd_eq, if_neg (by decide), cV32]
      unfold X5_isParted aft
      rw [cVv32, e2, ob_some, F32_6, ob_some, d6]
      by_cases q3 : srt T s p' = 3
      · have n2 := nxq_gt (T := T) o2 (by omega)
        have n3 := (nx_le (T := T) o2).2
        rw [if_pos (by rw [q3]; rfl), rZ_1, bd_eq, if_neg (by decide), if_pos q3]
        unfold X5_read_B68
        rw [show nI a + 1 = nI (a + 1) from N_add a 1]
        exact c_lines hv hw f V' (nxq T s p') c2 j2 (q' + 1) (a + 1) h2 g' (by omega) (by omega) (by omega)
      · rw [if_neg (by rw [show (3 : Int32) = nI 3 from rfl, N_inj (by omega) (by omega)]; exact q3), ob_some, if_neg q3]
        by_cases q0 : srt T s p' = 0
        · rw [if_pos (by rw [q0]; rfl), rZ_0, bd_eq, if_pos rfl, if_pos q0]
          obtain ⟨c3, e3, r3⟩ := c_jdg (w := w) (m := m) (n := n) hv hw g' h2 d7
          refine ⟨c3, j2, ?_, r3⟩
          unfold X5_read_B67 X5_read_B68
          rw [Z, e3]
        · obtain ⟨c3, e3, b3⟩ := c_fail (w := w) (m := m) (n := n) (f := 1) hv h2 d7
          rw [if_neg (by rw [show (0 : Int32) = nI 0 from rfl, N_inj (by omega) (by omega)]; exact q0), cV32, show X5_fail 32 1 _ = _ from e3, bd_eq, rZ_0, bd_eq, if_pos rfl, if_neg q0]
          refine ⟨c3, j2, ?_, by decide, by decide, b3⟩
          unfold X5_read_B67 X5_read_B68
          rw [Z, c_B75 b3.2.1 (by decide) (by decide)]
def V0 (_ _ : Nat) : Nat := 0
theorem GP0 (T : Nat → Nat) : GP T V0 := by
  refine ⟨fun t _ => Nat.zero_le _, ⟨by decide, by decide, by decide, by decide⟩, by decide, fun _ t _ => rfl, fun r _ i hi => ?_, fun i hi => ?_, fun i hi => ?_, fun i hi => ?_, fun i hi => ?_, fun i i' hi => ?_, fun i hi => ?_, fun i hi => ?_, fun i hi => ?_, fun b o hb => ?_⟩
  all_goals first | exact absurd hi (Nat.not_lt_zero _) | exact absurd hb (Nat.not_lt_zero _)
theorem c_clear (hv : isV v) : ∃ c', X9_clear v (enc c j w m n) = some (enc c' j w m n) ∧ (∀ y, (y < v ∨ v + 15 ≤ y) → c' y = c y) ∧ RV2 c' v V0 ∧ c' v 7 = 0 := by
  have hv' : v = 2 ∨ v = 17 := hv
  unfold X9_clear
  rw [V_0 hv, ob_some, T_put (V_boys hv), ob_some, V_1 hv, ob_some, T_put (V_offs hv), ob_some, V_2 hv, ob_some, T_put (V_wats hv), ob_some, V_3 hv, ob_some, T_put (V_noons hv), ob_some, V_4 hv, ob_some, T_put (V_shoals hv), ob_some, V_5 hv, ob_some, T_put (V_unsure hv), ob_some, V_6 hv, ob_some, T_put (V_found hv), ob_some, pZ_0, V_p hv (by decide) (by decide), ob_some, V_p hv (by decide) (by decide), ob_some, V_p hv (by decide) (by decide), ob_some, V_p hv (by decide) (by decide), ob_some, V_p hv (by decide) (by decide), ob_some]
  refine ⟨_, rfl, fun y hy => ?_, ⟨fun t ht => ?_, fun f hf => ?_, fun t ht i hi => absurd hi (Nat.not_lt_zero _)⟩, ?_⟩
  · rw [vup_ne _ _ (by omega), vup_ne _ _ (by omega), vup_ne _ _ (by omega), vup_ne _ _ (by omega), vup_ne _ _ (by omega), vup_ne _ _ (by omega), vup_ne _ _ (by omega), vup_ne _ _ (by omega), vup_ne _ _ (by omega), vup_ne _ _ (by omega), vup_ne _ _ (by omega), vup_ne _ _ (by omega)]
  · rw [vup_ne _ _ (by omega), vup_ne _ _ (by omega), vup_ne _ _ (by omega), vup_ne _ _ (by omega), vup_ne _ _ (by omega)]
    match t, ht with
    | 0, _ => simp [va_up, upd, V0]; rfl
    | 1, _ => simp [va_up, upd, V0]; rfl
    | 2, _ => simp [va_up, upd, V0]; rfl
    | 3, _ => simp [va_up, upd, V0]; rfl
    | 4, _ => simp [va_up, upd, V0]; rfl
    | 5, _ => simp [va_up, upd, V0]; rfl
    | 6, _ => simp [va_up, upd, V0]; rfl
  · match f, hf with
    | 0, _ => simp [va_up, upd, V0]; rfl
    | 1, _ => simp [va_up, upd, V0]; rfl
    | 2, _ => simp [va_up, upd, V0]; rfl
    | 3, _ => simp [va_up, upd, V0]; rfl
  · simp [va_up, upd]
theorem F32_pw {r : Nat} : pF (enc c j w m n) 32 5 3 (.ref r) = some (enc c j (va_up w 2 r) m n) := by
  have A : ∀ i, i < 13 → ([(2, 1), (2, 33), (2, 34), (3, 2), (0, 0), (0, 0), (0, 0), (0, 0), (1, 0), (0, 0), (0, 0), (0, 0), (0, 0)] : List (Nat × Nat))[i]? = some (3, 2) → i = 3 := by decide
  exact pF_w rfl rfl (noW_all (by decide)) fun i k h hk => by
    subst hk
    exact A i (List.getElem?_eq_some_iff.mp h).1 h
theorem c_read (hv : isV v) {N : Nat} (hN : N ≤ 900) (hT : ∀ i, T i < 256) (ht : ∀ i, i < N → c 1 i &&& 255 = nI (T i)) : ∃ c' j', X5_read 32 (nI N) v (enc c j w m n) = some (enc c' j' (va_up w 2 v) m n) ∧ CE c v T N (rdA T N 1000 V0 0) c' j' := by
  have hv' : v = 2 ∨ v = 17 := hv
  obtain ⟨c1, e1, f1, r1, z1⟩ := c_clear (c := c) (j := j) (w := va_up w 2 v) (m := m) (n := n) hv
  have J : JC c (va_up (va_up (va_up (va_up c1 32 (upd (c1 32) 4 (nI N))) 32 (upd (va_up c1 32 (upd (c1 32) 4 (nI N)) 32) 5 0)) 32 (upd (va_up (va_up c1 32 (upd (c1 32) 4 (nI N))) 32 (upd (va_up c1 32 (upd (c1 32) 4 (nI N)) 32) 5 0) 32) 11 0)) 32 (upd (va_up (va_up (va_up c1 32 (upd (c1 32) 4 (nI N))) 32 (upd (va_up c1 32 (upd (c1 32) 4 (nI N)) 32) 5 0)) 32 (upd (va_up (va_up c1 32 (upd (c1 32) 4 (nI N))) 32 (upd (va_up c1 32 (upd (c1 32) 4 (nI N)) 32) 5 0) 32) 11 0) 32) 12 (-1))) j v T N V0 0 := by
    have O : ∀ y, y ≠ 32 → va_up (va_up (va_up (va_up c1 32 (upd (c1 32) 4 (nI N))) 32 (upd (va_up c1 32 (upd (c1 32) 4 (nI N)) 32) 5 0)) 32 (upd (va_up (va_up c1 32 (upd (c1 32) 4 (nI N))) 32 (upd (va_up c1 32 (upd (c1 32) 4 (nI N)) 32) 5 0) 32) 11 0)) 32 (upd (va_up (va_up (va_up c1 32 (upd (c1 32) 4 (nI N))) 32 (upd (va_up c1 32 (upd (c1 32) 4 (nI N)) 32) 5 0)) 32 (upd (va_up (va_up c1 32 (upd (c1 32) 4 (nI N))) 32 (upd (va_up c1 32 (upd (c1 32) 4 (nI N)) 32) 5 0) 32) 11 0) 32) 12 (-1)) y = c1 y := fun y hy => by rw [vup_ne _ _ hy, vup_ne _ _ hy, vup_ne _ _ hy, vup_ne _ _ hy]
    refine ⟨⟨hN, hT, by rw [v32 (by decide), v32 (by decide), v32 (by decide), u32], fun i hi => by rw [O 1 (by decide), f1 1 (by omega)]; exact ht i hi⟩, by rw [v32 (by decide), v32 (by decide), u32]; rfl, Nat.zero_le _, by rw [v32 (by decide), u32], fun y a b => by rw [O y a]; exact f1 y b, r1.fr hv fun y a b => O y (by omega), by rw [O v (by omega), z1]; rfl, fun r _ i hi => absurd hi (Nat.not_lt_zero _)⟩
  obtain ⟨c', j', e2, r2⟩ := c_lines (c0 := c) (w := va_up w 2 v) (m := m) (n := n) hv (vup_at _ _ _) 1000 V0 0 _ j 5000 0 J (GP0 T) (by omega) (by omega) (by omega)
  refine ⟨c', j', ?_, r2⟩
  unfold X5_read
  rw [F32_pw, ob_some, F32_r3, ob_some, vup_at, cVv_eq (V_is hv), e1, ob_some, F32_p4, ob_some, F32_p5, ob_some, F32_p11, ob_some, F32_p12, ob_some]
  exact e2
end
