/-! the class reads any line, and all of them -/
def ln (T : Nat → Nat) (s : Nat) (V : Nat → Nat → Nat) (p : Nat) : Out :=
  if isW T s 0 p then (if V 20 11 = 0 then lnVoy T s V (nxq T s p) else .bad 3 (stp T s p))
  else if bgs T s p = false then .bad 1 (stp T s p)
  else if V 20 11 = 0 then .bad 6 (stp T s p)
  else if isW T s 4 p then (if cap 0 ≤ V 20 0 then .bad 5 (stp T s p) else lnBoy T s V (nxq T s p))
  else if isW T s 5 p then (if cap 1 ≤ V 20 1 then .bad 5 (stp T s p) else lnOff T s V (nxq T s p))
  else if isW T s 6 p then (if cap 2 ≤ V 20 2 then .bad 5 (stp T s p) else lnWat T s V (nxq T s p))
  else if isW T s 7 p then (if cap 3 ≤ V 20 3 then .bad 5 (stp T s p) else lnNoo T s V (nxq T s p))
  else if isW T s 8 p then (if cap 4 ≤ V 20 4 then .bad 5 (stp T s p) else lnSho T s V (nxq T s p))
  else if isW T s 9 p then (if cap 5 ≤ V 20 5 then .bad 5 (stp T s p) else lnUns T s V (nxq T s p))
  else (if cap 6 ≤ V 20 6 then .bad 5 (stp T s p) else lnFou T s V (nxq T s p))
def latB (V : Nat → Nat → Nat) : Bool := decide ((∃ i, i < V 20 3 ∧ V 20 2 < V 5 i) ∨ (∃ i, i < V 20 6 ∧ V 20 2 < V 9 i))
def jdg (T : Nat → Nat) (s : Nat) (V : Nat → Nat → Nat) (p : Nat) : Out := if V 20 2 = 0 then .bad 6 (stp T s p) else if latB V then .bad 7 (stp T s p) else .ok V (nxq T s p)
def aft (T : Nat → Nat) (s : Nat) (V : Nat → Nat → Nat) (p : Nat) (K : Out) : Out := if srt T s p = 3 then K else if srt T s p = 0 then jdg T s V p else .bad 1 (stp T s p)
def rdA (T : Nat → Nat) (s : Nat) : Nat → (Nat → Nat → Nat) → Nat → Out
  | 0, _, _ => .bad 1 0
  | f + 1, V, p => match ln T s V p with
    | Sum.inl x => Sum.inl x
    | Sum.inr (V', p') => aft T s V' p' (rdA T s f V' (nxq T s p'))
theorem gv_of {T : Nat → Nat} {V : Nat → Nat → Nat} (g : GP T V) (h1 : V 20 2 ≠ 0) (h2 : latB V = false) : GV V := by
  obtain ⟨g1, g2, g3, g4, g5, g6, g7, g8, g9, g10, g11, g12, g13, g14⟩ := g
  obtain ⟨l1, l2⟩ := not_or.mp (of_decide_eq_false h2)
  refine ⟨⟨g1 0 (by decide), g1 1 (by decide), g1 2 (by decide), g1 3 (by decide), g1 4 (by decide), g1 5 (by decide), g1 6 (by decide), by omega⟩, g2, g6, g7, g8, fun i hi => ⟨(g9 i hi).1, ?_⟩, g10, fun i hi => ?_, g12, fun i hi => ⟨?_, ?_⟩⟩
  · exact Nat.not_lt.mp fun y => l1 ⟨i, hi, y⟩
  · have := g11 i hi; omega
  · exact Nat.not_lt.mp fun y => l2 ⟨i, hi, y⟩
  · have := g13 i hi; omega
section
variable {c0 c : Nat → Nat → Int32} {j : Nat → Nat → Int64} {w : Nat → Nat} {m : Nat → Nat → Int32} {n : Nat → Nat → Int64} {T : Nat → Nat} {s p v : Nat} {V : Nat → Nat → Nat} {F : Hp → Option (Int32 × Hp)}
theorem co_tr {F' : Hp → Option (Int32 × Hp)} {c1 : Nat → Nat → Int32} {j1 : Nat → Nat → Int64} {o : Out} (h : CO c0 v T s F' c1 j1 w m n o) (e : F (enc c j w m n) = bd (F' (enc c1 j1 w m n)) fun r h => rZ r h) : CO c0 v T s F c j w m n o := by
  match o, h with
  | Sum.inl (f, q), ⟨c', j', a, b⟩ => exact ⟨c', j', by rw [e, a, bd_eq, rZ_0], b⟩
  | Sum.inr (V, p), ⟨c', j', a, b⟩ => exact ⟨c', j', by rw [e, a, bd_eq, rZ_1], b⟩
theorem op_ln (hp : p ≤ s) (g : GP T V) : OKP T s (nxq T s p) (ln T s V p) := by
  have a1 := nx_le (T := T) hp
  have b : ∀ f q : Nat, f ≠ 0 → f < 8 → OKP T s (nxq T s p) (.bad f q) := fun f q h1 h2 => ⟨h1, h2⟩
  have g3 := g.2.2.1
  unfold ln
  split
  · split
    · exact op_voy a1.2 g
    · exact b _ _ (by decide) (by decide)
  · split
    · exact b _ _ (by decide) (by decide)
    · split
      · exact b _ _ (by decide) (by decide)
      · rename_i h11
        have e11 : V 20 11 = 1 := by omega
        split
        · split
          · exact b _ _ (by decide) (by decide)
          · exact op_boy a1.2 g e11 (Nat.not_le.mp (by assumption))
        · split
          · split
            · exact b _ _ (by decide) (by decide)
            · exact op_off a1.2 g e11 (Nat.not_le.mp (by assumption))
          · split
            · split
              · exact b _ _ (by decide) (by decide)
              · exact op_wat a1.2 g e11 (Nat.not_le.mp (by assumption))
            · split
              · split
                · exact b _ _ (by decide) (by decide)
                · exact op_noo a1.2 g e11 (Nat.not_le.mp (by assumption))
              · split
                · split
                  · exact b _ _ (by decide) (by decide)
                  · exact op_sho a1.2 g e11 (Nat.not_le.mp (by assumption))
                · split
                  · split
                    · exact b _ _ (by decide) (by decide)
                    · exact op_uns a1.2 g e11 (Nat.not_le.mp (by assumption))
                  · split
                    · exact b _ _ (by decide) (by decide)
                    · exact op_fou a1.2 g e11 (Nat.not_le.mp (by assumption))
theorem cl_line (hv : isV v) (hw : w 2 = v) (g : GP T V) (h : JC c0 c j v T s V p) : CO c0 v T s (X5_readLine 32) c j w m n (ln T s V p) := by
  obtain ⟨c1, j1, e1, h1, d6, d7, d9, d8⟩ := c_rd (w := w) (m := m) (n := n) hv h
  have I : ∀ k, k < 44 → X5_is 32 k (enc c1 j1 w m n) = some (if isW T s k p then 1 else 0, enc c1 j1 w m n) := fun k hk => c_is h.2.2.1 d6 d8 hk
  have It : ∀ k, k < 44 → isW T s k p = true → X5_is 32 k (enc c1 j1 w m n) = some (1, enc c1 j1 w m n) := fun k hk z => by rw [I k hk, if_pos z]
  have If : ∀ k, k < 44 → ¬ isW T s k p = true → X5_is 32 k (enc c1 j1 w m n) = some (0, enc c1 j1 w m n) := fun k hk z => by rw [I k hk, if_neg z]
  have h6 := h1.2.2.2.2.2.1
  have g3 := g.2.2.1
  have F7 : gI (enc c1 j1 w m n) v 9 7 = some (nI (V 20 11)) := by rw [V_i hv (by decide) (by decide), h1.2.2.2.2.2.2.1]
  have FU : ∀ t, t < 7 → cap t ≤ V 20 t → X8_isFull (v + 1 + 2 * t) (enc c1 j1 w m n) = some (1, enc c1 j1 w m n) := fun t ht z => by
    have := cap_le t ht
    have := g.1 t ht
    rw [T_full (V_T hv ht) (h6.1 t ht) (by omega), if_pos z]
  have FN : ∀ t, t < 7 → ¬ cap t ≤ V 20 t → X8_isFull (v + 1 + 2 * t) (enc c1 j1 w m n) = some (0, enc c1 j1 w m n) := fun t ht z => by
    have := cap_le t ht
    have := g.1 t ht
    rw [T_full (V_T hv ht) (h6.1 t ht) (by omega), if_neg z]
  have FL : ∀ f, ∃ c2, X5_fail 32 (nI f) (enc c1 j1 w m n) = some (0, enc c2 j1 w m n) ∧ BC c0 c2 v f (stp T s p) := fun f => c_fail (w := w) (m := m) (n := n) (f := f) hv h1 d7
  obtain ⟨k1, x1, y1⟩ := FL 1
  obtain ⟨k3, x3, y3⟩ := FL 3
  obtain ⟨k5, x5, y5⟩ := FL 5
  obtain ⟨k6, x6, y6⟩ := FL 6
  unfold ln
  by_cases q0 : isW T s 0 p = true
  · rw [if_pos q0]
    by_cases q1 : V 20 11 = 0
    · rw [if_pos q1]
      refine co_tr (cl_voy (w := w) (m := m) (n := n) hv hw h1) ?_
      unfold X5_readLine
      rw [cVv32, e1, ob_some, cV32, It 0 (by decide) q0, bd_eq, if_neg (by decide), F32_r3, ob_some, hw, F7, ob_some, if_pos (by rw [q1]; rfl), cV32]
    · rw [if_neg q1]
      refine co_no ⟨k3, j1, ?_, y3⟩
      unfold X5_readLine
      rw [cVv32, e1, ob_some, cV32, It 0 (by decide) q0, bd_eq, if_neg (by decide), F32_r3, ob_some, hw, F7, ob_some, if_neg (by rw [show (0 : Int32) = nI 0 from rfl, N_inj (by omega) (by omega)]; exact q1), cV32, show X5_fail 32 3 _ = _ from x3, bd_eq, rZ_0]
  · rw [if_neg q0]
    by_cases qb : bgs T s p = false
    · rw [if_pos qb]
      refine co_no ⟨k1, j1, ?_, y1⟩
      unfold X5_readLine
      rw [cVv32, e1, ob_some, cV32, If 0 (by decide) q0, bd_eq, if_pos rfl, cV32, c_begins h.2.2.1 d6 d8, qb, bd_eq, if_pos (by decide), cV32, show X5_fail 32 1 _ = _ from x1, bd_eq, rZ_0]
    · rw [if_neg qb]
      have qb' : bgs T s p = true := by simpa using qb
      by_cases q1 : V 20 11 = 0
      · rw [if_pos q1]
        refine co_no ⟨k6, j1, ?_, y6⟩
        unfold X5_readLine
        rw [cVv32, e1, ob_some, cV32, If 0 (by decide) q0, bd_eq, if_pos rfl, cV32, c_begins h.2.2.1 d6 d8, qb', bd_eq, if_neg (by decide), F32_r3, ob_some, hw, F7, ob_some, if_pos (by rw [q1]; rfl), cV32, show X5_fail 32 6 _ = _ from x6, bd_eq, rZ_0]
      · rw [if_neg q1]
        have h11 : ¬ nI (V 20 11) = 0 := by rw [show (0 : Int32) = nI 0 from rfl, N_inj (by omega) (by omega)]; exact q1
        by_cases w4 : isW T s 4 p = true
        · rw [if_pos w4]
          by_cases q : cap 0 ≤ V 20 0
          · rw [if_pos q]
            refine co_no ⟨k5, j1, ?_, y5⟩
            unfold X5_readLine
            rw [cVv32, e1, ob_some, cV32, If 0 (by decide) q0, bd_eq, if_pos rfl, cV32, c_begins h.2.2.1 d6 d8, qb', bd_eq, if_neg (by decide), F32_r3, ob_some, hw, F7, ob_some, if_neg h11, cV32, It 4 (by decide) w4, bd_eq, if_neg (by decide), F32_r3, ob_some, hw, V_0 hv, ob_some, cV_eq (T_is (V_boys hv)), show X8_isFull (v + 1) _ = _ from FU 0 (by decide) q, bd_eq, if_neg (by decide), cV32, show X5_fail 32 5 _ = _ from x5, bd_eq, rZ_0]
          · rw [if_neg q]
            refine co_tr (cl_boy (w := w) (m := m) (n := n) hv hw g h1 (Nat.not_le.mp q)) ?_
            unfold X5_readLine
            rw [cVv32, e1, ob_some, cV32, If 0 (by decide) q0, bd_eq, if_pos rfl, cV32, c_begins h.2.2.1 d6 d8, qb', bd_eq, if_neg (by decide), F32_r3, ob_some, hw, F7, ob_some, if_neg h11, cV32, It 4 (by decide) w4, bd_eq, if_neg (by decide), F32_r3, ob_some, hw, V_0 hv, ob_some, cV_eq (T_is (V_boys hv)), show X8_isFull (v + 1) _ = _ from FN 0 (by decide) q, bd_eq, if_pos rfl, cV32]
        · rw [if_neg w4]
          by_cases w5 : isW T s 5 p = true
          · rw [if_pos w5]
            by_cases q : cap 1 ≤ V 20 1
            · rw [if_pos q]
              refine co_no ⟨k5, j1, ?_, y5⟩
              unfold X5_readLine
              rw [cVv32, e1, ob_some, cV32, If 0 (by decide) q0, bd_eq, if_pos rfl, cV32, c_begins h.2.2.1 d6 d8, qb', bd_eq, if_neg (by decide), F32_r3, ob_some, hw, F7, ob_some, if_neg h11, cV32, If 4 (by decide) w4, bd_eq, if_pos rfl, cV32, It 5 (by decide) w5, bd_eq, if_neg (by decide), F32_r3, ob_some, hw, V_1 hv, ob_some, cV_eq (T_is (V_offs hv)), show X8_isFull (v + 3) _ = _ from FU 1 (by decide) q, bd_eq, if_neg (by decide), cV32, show X5_fail 32 5 _ = _ from x5, bd_eq, rZ_0]
            · rw [if_neg q]
              refine co_tr (cl_off (w := w) (m := m) (n := n) hv hw g h1 (Nat.not_le.mp q)) ?_
              unfold X5_readLine
              rw [cVv32, e1, ob_some, cV32, If 0 (by decide) q0, bd_eq, if_pos rfl, cV32, c_begins h.2.2.1 d6 d8, qb', bd_eq, if_neg (by decide), F32_r3, ob_some, hw, F7, ob_some, if_neg h11, cV32, If 4 (by decide) w4, bd_eq, if_pos rfl, cV32, It 5 (by decide) w5, bd_eq, if_neg (by decide), F32_r3, ob_some, hw, V_1 hv, ob_some, cV_eq (T_is (V_offs hv)), show X8_isFull (v + 3) _ = _ from FN 1 (by decide) q, bd_eq, if_pos rfl, cV32]
          · rw [if_neg w5]
            by_cases w6 : isW T s 6 p = true
            · rw [if_pos w6]
              by_cases q : cap 2 ≤ V 20 2
              · rw [if_pos q]
                refine co_no ⟨k5, j1, ?_, y5⟩
                unfold X5_readLine
                rw [cVv32, e1, ob_some, cV32, If 0 (by decide) q0, bd_eq, if_pos rfl, cV32, c_begins h.2.2.1 d6 d8, qb', bd_eq, if_neg (by decide), F32_r3, ob_some, hw, F7, ob_some, if_neg h11, cV32, If 4 (by decide) w4, bd_eq, if_pos rfl, cV32, If 5 (by decide) w5, bd_eq, if_pos rfl, cV32, It 6 (by decide) w6, bd_eq, if_neg (by decide), F32_r3, ob_some, hw, V_2 hv, ob_some, cV_eq (T_is (V_wats hv)), show X8_isFull (v + 5) _ = _ from FU 2 (by decide) q, bd_eq, if_neg (by decide), cV32, show X5_fail 32 5 _ = _ from x5, bd_eq, rZ_0]
              · rw [if_neg q]
                refine co_tr (cl_wat (w := w) (m := m) (n := n) hv hw g h1 (Nat.not_le.mp q)) ?_
                unfold X5_readLine
                rw [cVv32, e1, ob_some, cV32, If 0 (by decide) q0, bd_eq, if_pos rfl, cV32, c_begins h.2.2.1 d6 d8, qb', bd_eq, if_neg (by decide), F32_r3, ob_some, hw, F7, ob_some, if_neg h11, cV32, If 4 (by decide) w4, bd_eq, if_pos rfl, cV32, If 5 (by decide) w5, bd_eq, if_pos rfl, cV32, It 6 (by decide) w6, bd_eq, if_neg (by decide), F32_r3, ob_some, hw, V_2 hv, ob_some, cV_eq (T_is (V_wats hv)), show X8_isFull (v + 5) _ = _ from FN 2 (by decide) q, bd_eq, if_pos rfl, cV32]
            · rw [if_neg w6]
              by_cases w7 : isW T s 7 p = true
              · rw [if_pos w7]
                by_cases q : cap 3 ≤ V 20 3
                · rw [if_pos q]
                  refine co_no ⟨k5, j1, ?_, y5⟩
                  unfold X5_readLine
                  rw [cVv32, e1, ob_some, cV32, If 0 (by decide) q0, bd_eq, if_pos rfl, cV32, c_begins h.2.2.1 d6 d8, qb', bd_eq, if_neg (by decide), F32_r3, ob_some, hw, F7, ob_some, if_neg h11, cV32, If 4 (by decide) w4, bd_eq, if_pos rfl, cV32, If 5 (by decide) w5, bd_eq, if_pos rfl, cV32, If 6 (by decide) w6, bd_eq, if_pos rfl, cV32, It 7 (by decide) w7, bd_eq, if_neg (by decide), F32_r3, ob_some, hw, V_3 hv, ob_some, cV_eq (T_is (V_noons hv)), show X8_isFull (v + 7) _ = _ from FU 3 (by decide) q, bd_eq, if_neg (by decide), cV32, show X5_fail 32 5 _ = _ from x5, bd_eq, rZ_0]
                · rw [if_neg q]
                  refine co_tr (cl_noo (w := w) (m := m) (n := n) hv hw g h1 (Nat.not_le.mp q)) ?_
                  unfold X5_readLine
                  rw [cVv32, e1, ob_some, cV32, If 0 (by decide) q0, bd_eq, if_pos rfl, cV32, c_begins h.2.2.1 d6 d8, qb', bd_eq, if_neg (by decide), F32_r3, ob_some, hw, F7, ob_some, if_neg h11, cV32, If 4 (by decide) w4, bd_eq, if_pos rfl, cV32, If 5 (by decide) w5, bd_eq, if_pos rfl, cV32, If 6 (by decide) w6, bd_eq, if_pos rfl, cV32, It 7 (by decide) w7, bd_eq, if_neg (by decide), F32_r3, ob_some, hw, V_3 hv, ob_some, cV_eq (T_is (V_noons hv)), show X8_isFull (v + 7) _ = _ from FN 3 (by decide) q, bd_eq, if_pos rfl, cV32]
              · rw [if_neg w7]
                by_cases w8 : isW T s 8 p = true
                · rw [if_pos w8]
                  by_cases q : cap 4 ≤ V 20 4
                  · rw [if_pos q]
                    refine co_no ⟨k5, j1, ?_, y5⟩
                    unfold X5_readLine
                    rw [cVv32, e1, ob_some, cV32, If 0 (by decide) q0, bd_eq, if_pos rfl, cV32, c_begins h.2.2.1 d6 d8, qb', bd_eq, if_neg (by decide), F32_r3, ob_some, hw, F7, ob_some, if_neg h11, cV32, If 4 (by decide) w4, bd_eq, if_pos rfl, cV32, If 5 (by decide) w5, bd_eq, if_pos rfl, cV32, If 6 (by decide) w6, bd_eq, if_pos rfl, cV32, If 7 (by decide) w7, bd_eq, if_pos rfl, cV32, It 8 (by decide) w8, bd_eq, if_neg (by decide), F32_r3, ob_some, hw, V_4 hv, ob_some, cV_eq (T_is (V_shoals hv)), show X8_isFull (v + 9) _ = _ from FU 4 (by decide) q, bd_eq, if_neg (by decide), cV32, show X5_fail 32 5 _ = _ from x5, bd_eq, rZ_0]
                  · rw [if_neg q]
                    refine co_tr (cl_sho (w := w) (m := m) (n := n) hv hw g h1 (Nat.not_le.mp q)) ?_
                    unfold X5_readLine
                    rw [cVv32, e1, ob_some, cV32, If 0 (by decide) q0, bd_eq, if_pos rfl, cV32, c_begins h.2.2.1 d6 d8, qb', bd_eq, if_neg (by decide), F32_r3, ob_some, hw, F7, ob_some, if_neg h11, cV32, If 4 (by decide) w4, bd_eq, if_pos rfl, cV32, If 5 (by decide) w5, bd_eq, if_pos rfl, cV32, If 6 (by decide) w6, bd_eq, if_pos rfl, cV32, If 7 (by decide) w7, bd_eq, if_pos rfl, cV32, It 8 (by decide) w8, bd_eq, if_neg (by decide), F32_r3, ob_some, hw, V_4 hv, ob_some, cV_eq (T_is (V_shoals hv)), show X8_isFull (v + 9) _ = _ from FN 4 (by decide) q, bd_eq, if_pos rfl, cV32]
                · rw [if_neg w8]
                  by_cases w9 : isW T s 9 p = true
                  · rw [if_pos w9]
                    by_cases q : cap 5 ≤ V 20 5
                    · rw [if_pos q]
                      refine co_no ⟨k5, j1, ?_, y5⟩
                      unfold X5_readLine
                      rw [cVv32, e1, ob_some, cV32, If 0 (by decide) q0, bd_eq, if_pos rfl, cV32, c_begins h.2.2.1 d6 d8, qb', bd_eq, if_neg (by decide), F32_r3, ob_some, hw, F7, ob_some, if_neg h11, cV32, If 4 (by decide) w4, bd_eq, if_pos rfl, cV32, If 5 (by decide) w5, bd_eq, if_pos rfl, cV32, If 6 (by decide) w6, bd_eq, if_pos rfl, cV32, If 7 (by decide) w7, bd_eq, if_pos rfl, cV32, If 8 (by decide) w8, bd_eq, if_pos rfl, cV32, It 9 (by decide) w9, bd_eq, if_neg (by decide), F32_r3, ob_some, hw, V_5 hv, ob_some, cV_eq (T_is (V_unsure hv)), show X8_isFull (v + 11) _ = _ from FU 5 (by decide) q, bd_eq, if_neg (by decide), cV32, show X5_fail 32 5 _ = _ from x5, bd_eq, rZ_0]
                    · rw [if_neg q]
                      refine co_tr (cl_uns (w := w) (m := m) (n := n) hv hw g h1 (Nat.not_le.mp q)) ?_
                      unfold X5_readLine
                      rw [cVv32, e1, ob_some, cV32, If 0 (by decide) q0, bd_eq, if_pos rfl, cV32, c_begins h.2.2.1 d6 d8, qb', bd_eq, if_neg (by decide), F32_r3, ob_some, hw, F7, ob_some, if_neg h11, cV32, If 4 (by decide) w4, bd_eq, if_pos rfl, cV32, If 5 (by decide) w5, bd_eq, if_pos rfl, cV32, If 6 (by decide) w6, bd_eq, if_pos rfl, cV32, If 7 (by decide) w7, bd_eq, if_pos rfl, cV32, If 8 (by decide) w8, bd_eq, if_pos rfl, cV32, It 9 (by decide) w9, bd_eq, if_neg (by decide), F32_r3, ob_some, hw, V_5 hv, ob_some, cV_eq (T_is (V_unsure hv)), show X8_isFull (v + 11) _ = _ from FN 5 (by decide) q, bd_eq, if_pos rfl, cV32]
                  · rw [if_neg w9]
                    by_cases q : cap 6 ≤ V 20 6
                    · rw [if_pos q]
                      refine co_no ⟨k5, j1, ?_, y5⟩
                      unfold X5_readLine
                      rw [cVv32, e1, ob_some, cV32, If 0 (by decide) q0, bd_eq, if_pos rfl, cV32, c_begins h.2.2.1 d6 d8, qb', bd_eq, if_neg (by decide), F32_r3, ob_some, hw, F7, ob_some, if_neg h11, cV32, If 4 (by decide) w4, bd_eq, if_pos rfl, cV32, If 5 (by decide) w5, bd_eq, if_pos rfl, cV32, If 6 (by decide) w6, bd_eq, if_pos rfl, cV32, If 7 (by decide) w7, bd_eq, if_pos rfl, cV32, If 8 (by decide) w8, bd_eq, if_pos rfl, cV32, If 9 (by decide) w9, bd_eq, if_pos rfl, F32_r3, ob_some, hw, V_6 hv, ob_some, cV_eq (T_is (V_found hv)), show X8_isFull (v + 13) _ = _ from FU 6 (by decide) q, bd_eq, if_neg (by decide), cV32, show X5_fail 32 5 _ = _ from x5, bd_eq, rZ_0]
                    · rw [if_neg q]
                      refine co_tr (cl_fou (w := w) (m := m) (n := n) hv hw g h1 (Nat.not_le.mp q)) ?_
                      unfold X5_readLine
                      rw [cVv32, e1, ob_some, cV32, If 0 (by decide) q0, bd_eq, if_pos rfl, cV32, c_begins h.2.2.1 d6 d8, qb', bd_eq, if_neg (by decide), F32_r3, ob_some, hw, F7, ob_some, if_neg h11, cV32, If 4 (by decide) w4, bd_eq, if_pos rfl, cV32, If 5 (by decide) w5, bd_eq, if_pos rfl, cV32, If 6 (by decide) w6, bd_eq, if_pos rfl, cV32, If 7 (by decide) w7, bd_eq, if_pos rfl, cV32, If 8 (by decide) w8, bd_eq, if_pos rfl, cV32, If 9 (by decide) w9, bd_eq, if_pos rfl, F32_r3, ob_some, hw, V_6 hv, ob_some, cV_eq (T_is (V_found hv)), show X8_isFull (v + 13) _ = _ from FN 6 (by decide) q, bd_eq, if_pos rfl, cV32]
end
