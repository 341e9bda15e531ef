/-! the calls: acts -/
theorem INV.act {c c' m m' : Nat → Nat → Int32} {w : Nat → Nat} {V K : Nat → Nat → Nat} (I : INV c w m) (u1 : c 0 11 = 1) (u2 : m 75 14 = 1) (hc : ∀ y, 1 ≤ y → y < 35 → c' y = c y) (hc0 : ∀ f, f < 13 → c' 0 f = c 0 f) (hm : ∀ y, 75 < y → y < 82 → m' y = m y) (hmf : ∀ f, 1 ≤ f → f < 22 → f ≠ 11 → m' 75 f = m 75 f) (ht : c' 0 14 = 0) (ht2 : m' 75 11 = 0) (U : UW c' w m' V K) : INV c' w m' := by
  obtain ⟨⟨b1, b2, ⟨t, t1, t2, t3, t4⟩, b4, b5, b6⟩, -⟩ := I
  refine ⟨⟨b1, b2, ⟨t, t1, ?_, ?_, fun i hi => ?_⟩, by rw [ht, ht2], ?_, fun z => absurd (by rw [ht] at z; exact z) (by decide)⟩, Or.inr ⟨by rw [hc0 11 (by omega)]; exact u1, by rw [hmf 14 (by omega) (by omega) (by omega)]; exact u2, V, K, U⟩⟩
  · rw [hc0 12 (by omega)]; exact t2
  · rw [hmf 2 (by omega) (by omega) (by omega)]; exact t3
  · rw [hc 1 (by omega) (by omega), hm 76 (by omega) (by omega)]; exact t4 i hi
  · rw [hc 32 (by omega) (by omega), hmf 9 (by omega) (by omega) (by omega)]; exact b5
theorem MK_cells {m m' : Nat → Nat → Int32} {a b o o' : Nat} {V K : Nat → Nat → Nat} (g : GV V) (h : MK m a o V K) (e : ∀ i, i < 25 → m' b (o' + i) = m a (o + i)) : MK m' b o' V K := by
  have g12 := g.1.2.2.1
  obtain ⟨k1, M, hM, k2, k3⟩ := h
  refine ⟨fun k hk => ?_, M, hM, by rw [e 24 (by omega)]; exact k2, k3⟩
  rw [e k (by omega), e (12 + k) (by omega)]; exact k1 k hk
theorem RK_cells {c c' : Nat → Nat → Int32} {kp kq : Nat} {V K : Nat → Nat → Nat} {E : Nat → Nat} (g : GV V) (h : RK c kq V K E) (e1 : ∀ i, i < 36 → c' (kp + 2) i = c (kq + 2) i) (e2 : ∀ i, i < 5 → c' (kp + 4) i = c (kq + 4) i) : RK c' kp V K E := by
  have g12 := g.1.2.2.1
  have g5 := g.1.1
  refine ⟨fun k hk => ?_, fun b hb => ?_⟩
  · rw [e1 _ (by omega), e1 _ (by omega), e1 _ (by omega)]; exact h.1 k hk
  · rw [e2 _ (by omega)]; exact h.2 b hb
theorem RK_putK {c : Nat → Nat → Int32} {kp : Nat} {V K : Nat → Nat → Nat} {E : Nat → Nat} (hK : RK c kp V K E) {k col x : Nat} (hc : col < 3) : RK (va_up c (kp + 2) (upd (c (kp + 2)) (k * 3 + col) (nI x))) kp V (KP K k col x) E := by
  refine ⟨fun i hi => ?_, fun i hi => ?_⟩
  · rw [vup_at]
    obtain ⟨q1, q2, q3⟩ := hK.1 i hi
    have key : ∀ r, r < 3 → c (kp + 2) (i * 3 + r) = nI (K r i) → upd (c (kp + 2)) (k * 3 + col) (nI x) (i * 3 + r) = nI (KP K k col x r i) := by
      intro r hr hq
      unfold KP
      by_cases e : r = col ∧ i = k
      · obtain ⟨rfl, rfl⟩ := e; rw [upd_at, if_pos ⟨rfl, rfl⟩]
      · rw [upd_ne (by omega), if_neg e]; exact hq
    exact ⟨key 0 (by omega) q1, key 1 (by omega) q2, key 2 (by omega) q3⟩
  · rw [vup_ne _ _ (by omega)]; exact hK.2 i hi
theorem GKP {V K : Nat → Nat → Nat} (gk : GK V K) {k col x : Nat} (h0 : col = 0 → x < V 20 0) (h1 : col = 1 → x < 4) (h2 : col = 2 → x < 2) : GK V (KP K k col x) := fun i hi => by
  have := gk i hi
  unfold KP
  refine ⟨?_, ?_, ?_⟩
  · split
    · rename_i q; exact h0 q.1.symm
    · exact this.1
  · split
    · rename_i q; exact h1 q.1.symm
    · exact this.2.1
  · split
    · rename_i q; exact h2 q.1.symm
    · exact this.2.2
section
variable {c : Nat → Nat → Int32} {j : Nat → Nat → Int64} {w : Nat → Nat} {m : Nat → Nat → Int32} {n : Nat → Nat → Int64} {v : Nat} {V K : Nat → Nat → Nat}
theorem F56_0 : gR (enc c j w m n) 56 0 0 = some 57 := gR_k rfl rfl
theorem F56_1 : gI (enc c j w m n) 56 0 1 = some (c 56 1) := gI_c rfl rfl (by decide)
theorem F56_2 : gI (enc c j w m n) 56 0 2 = some (c 56 2) := gI_c rfl rfl (by decide)
theorem F56_p1 {x : Int32} : pF (enc c j w m n) 56 0 1 (.int x) = some (enc (va_up c 56 (upd (c 56) 1 x)) j w m n) := pF_c rfl rfl (by decide)
theorem F56_p2 {x : Int32} : pF (enc c j w m n) 56 0 2 (.int x) = some (enc (va_up c 56 (upd (c 56) 2 x)) j w m n) := pF_c rfl rfl (by decide)
theorem F56_is : isC (enc c j w m n) 56 0 = true := isC_enc rfl
theorem made_T : isT 57 16 3 58 := ⟨rfl, rfl, by decide, by decide, by decide, by decide, by decide, by decide⟩
theorem c_make (h : CN c w v V K) {l u k col x : Nat} (hl : l < 16) (hu : u ≤ 16) (e1 : c 56 1 = nI l) (e2 : c 56 2 = nI u) (hk : k < V 20 2) (hc : col < 3) : ∃ c', X0_make 56 35 (nI k) (nI col) (nI x) (enc c j w m n) = some (enc c' j w m n) ∧ (∀ y, y ≠ 56 → y ≠ 58 → y ≠ 37 → c' y = c y) ∧ c' 56 1 = nI ((l + 1) % 16) ∧ c' 56 2 = nI (min (u + 1) 16) ∧ (∀ i, (i < l * 3 ∨ l * 3 + 2 < i) → c' 58 i = c 58 i) ∧ c' 58 (l * 3) = nI k ∧ c' 58 (l * 3 + 1) = nI col ∧ c' 58 (l * 3 + 2) = nI (K col k) ∧ RK c' 35 V (KP K k col x) (V 1) := by
  obtain ⟨hv, hw, g, hV, gk, hK, h2⟩ := h
  have g12 := g.1.2.2.1
  generalize h1 : va_up c 58 (upd (c 58) (l * 3) (nI k)) = c1
  generalize h2' : va_up c1 58 (upd (c1 58) (l * 3 + 1) (nI col)) = c2
  generalize h3 : va_up c2 58 (upd (c2 58) (l * 3 + 2) (nI (K col k))) = c3
  generalize h4 : va_up c3 56 (upd (c3 56) 1 (nI ((l + 1) % 16))) = c4
  generalize h5 : va_up c4 56 (upd (c4 56) 2 (nI (min (u + 1) 16))) = c5
  have o1 : ∀ y, y ≠ 58 → c1 y = c y := fun y hy => by rw [← h1]; exact vup_ne _ _ hy
  have o2 : ∀ y, y ≠ 58 → c2 y = c y := fun y hy => by rw [← h2', vup_ne _ _ hy]; exact o1 y hy
  have o3 : ∀ y, y ≠ 58 → c3 y = c y := fun y hy => by rw [← h3, vup_ne _ _ hy]; exact o2 y hy
  have o4 : ∀ y, y ≠ 56 → c4 y = c3 y := fun y hy => by rw [← h4]; exact vup_ne _ _ hy
  have o5 : ∀ y, y ≠ 56 → c5 y = c3 y := fun y hy => by rw [← h5, vup_ne _ _ hy]; exact o4 y hy
  have hcell : c2 37 (k * 3 + col) = nI (K col k) := by
    rw [o2 37 (by omega)]
    obtain ⟨q0, q1, q2⟩ := hK.1 k hk
    match col, hc with
    | 0, _ => exact q0
    | 1, _ => exact q1
    | 2, _ => exact q2
    | col + 3, z => omega
  have hmin : J9_min_7cf53 (nI u + 1) 16 (enc c4 j w m n) = some (nI (min (u + 1) 16), enc c4 j w m n) := by
    unfold J9_min_7cf53
    rw [show nI u + 1 = nI (u + 1) from N_add u 1, show (16 : Int32) = nI 16 from rfl]
    by_cases e : 16 < u + 1
    · rw [if_pos (by rw [N_lt (by omega) (by omega)]; exact e), Nat.min_eq_right (by omega)]
    · rw [if_neg (by rw [N_lt (by omega) (by omega)]; exact e), Nat.min_eq_left (by omega)]
  have hK5 : RK c5 35 V K (V 1) := hK.fr (by rw [o5 _ (by omega), o3 _ (by omega)]) (by rw [o5 _ (by omega), o3 _ (by omega)])
  have hKP := RK_putK hK5 (k := k) (col := col) (x := x) hc
  have v58 : ∀ i, c5 58 i = c3 58 i := fun i => by rw [o5 58 (by omega)]
  refine ⟨va_up c5 37 (upd (c5 37) (k * 3 + col) (nI x)), ?_, fun y y1 y2 y3 => ?_, ?_, ?_, fun i hi => ?_, ?_, ?_, ?_, hKP⟩
  · unfold X0_make
    rw [F56_0, ob_some, F56_1, ob_some, e1, cVv_eq (T_is made_T), T_put0 made_T hl (by omega), ob_some, h1, F56_0, ob_some, F56_1, ob_some, o1 56 (by omega), e1, cVv_eq (T_is made_T), T_put1 made_T hl (by omega), ob_some, h2', F56_0, ob_some, F56_1, ob_some, o2 56 (by omega), e1, K_0 now_K, ob_some, cV_eq (T_is (K_wats now_K)), T_cell (K_wats now_K) (by omega) hc, bd_eq, hcell, cVv_eq (T_is made_T), T_put2 made_T hl (by omega), ob_some, h3, F56_1, ob_some, o3 56 (by omega), e1, show nI l + 1 = nI (l + 1) from N_add l 1, show (16 : Int32) = nI 16 from rfl, N_mod (by omega) (by omega), F56_p1, ob_some, h4, F56_2, ob_some, show c4 56 2 = nI u by rw [← h4, vup_at, upd_ne (by omega), o3 56 (by omega)]; exact e2, show J9_min_7cf53 (nI u + 1) (nI 16) (enc c4 j w m n) = _ from hmin, bd_eq, F56_p2, ob_some, h5, K_0 now_K, ob_some, cVv_eq (T_is (K_wats now_K)), T_putc (K_wats now_K) (by omega) hc, ob_some]
  · rw [vup_ne _ _ y3, o5 y y1, o3 y y2]
  · rw [vup_ne _ _ (by omega), ← h5, vup_at, upd_ne (by omega), ← h4, vup_at, upd_at]
  · rw [vup_ne _ _ (by omega), ← h5, vup_at, upd_at]
  · rw [vup_ne _ _ (by omega), v58, ← h3, vup_at, upd_ne (by omega), ← h2', vup_at, upd_ne (by omega), ← h1, vup_at, upd_ne (by omega)]
  · rw [vup_ne _ _ (by omega), v58, ← h3, vup_at, upd_ne (by omega), ← h2', vup_at, upd_ne (by omega), ← h1, vup_at, upd_at]
  · rw [vup_ne _ _ (by omega), v58, ← h3, vup_at, upd_ne (by omega), ← h2', vup_at, upd_at]
  · rw [vup_ne _ _ (by omega), v58, ← h3, vup_at, upd_at]
theorem m_note {u : Nat} (hu : u ≤ 16) (e : m 75 22 = nI u) : ∃ m', X11_note 75 (enc c j w m n) = some (enc c j w m' n) ∧ (∀ y, y ≠ 75 → y ≠ 83 → m' y = m y) ∧ (∀ f, f ≠ 22 → m' 75 f = m 75 f) ∧ m' 75 22 = nI (min (u + 1) 16) ∧ (u < 16 → (∀ i, i < 25 * u → m' 83 i = m 83 i) ∧ ∀ i, i < 25 → m' 83 (25 * u + i) = m 82 i) ∧ (u = 16 → (∀ i, i < 375 → m' 83 i = m 83 (25 + i)) ∧ ∀ i, i < 25 → m' 83 (375 + i) = m 82 i) := by
  have fin : ∀ (m1 : Nat → Nat → Int32) (q : Nat), q < 16 → m1 75 22 = nI q → m1 82 = m 82 → ∃ m', X11_note_B49 75 (enc c j w m1 n) = some (enc c j w m' n) ∧ (∀ y, y ≠ 75 → y ≠ 83 → m' y = m1 y) ∧ (∀ f, f ≠ 22 → m' 75 f = m1 75 f) ∧ m' 75 22 = nI (q + 1) ∧ (∀ i, i < 25 * q → m' 83 i = m1 83 i) ∧ ∀ i, i < 25 → m' 83 (25 * q + i) = m 82 i := by
    intro m1 q hq e1 e82
    obtain ⟨m2, c2, f2, g2, o2⟩ := m_copy (c := c) (j := j) (w := w) (m := m1) (n := n) (a := 82) (o := 0) (b := 83) (p := 25 * q) (q := 25) (la := 25) (lb := 400) rfl rfl (by decide) (by decide) (by decide) (by decide) (by decide) (by omega) (by omega)
    refine ⟨va_up m2 75 (upd (m2 75) 22 (nI (q + 1))), ?_, fun y h1 h2 => by rw [vup_ne _ _ h1]; exact f2 y h2, fun f hf => by rw [vup_at, upd_ne hf, f2 75 (by omega)], by rw [vup_at, upd_at], fun i hi => by rw [vup_ne _ _ (by omega)]; exact o2 i (Or.inl hi), fun i hi => ?_⟩
    · unfold X11_note_B49
      rw [R75_19, ob_some, R75_20, ob_some, I75_22, ob_some, e1, show (25 : Int32) * nI q = nI (25 * q) from N_mul 25 q, show X11_copy 82 0 83 (nI (25 * q)) 25 (enc c j w m1 n) = _ from c2, ob_some, I75_22, ob_some, f2 75 (by omega), e1, show nI q + 1 = nI (q + 1) from N_add q 1, P75_22, ob_some]
      rw [f2 75 (by omega)]
    · rw [vup_ne _ _ (by omega), g2 i hi, Nat.zero_add, e82]
  unfold X11_note
  rw [I75_22, ob_some, e]
  by_cases e16 : u = 16
  · subst e16
    rw [if_pos (by rfl)]
    have L := loop_up (z := fun _ _ _ => none) (s := X11_note_L11_s) 375 (fun i f => ∀ m1, (∀ y, y ≠ 83 → m1 y = m y) → (∀ i', i' < i → m1 83 i' = m 83 (25 + i')) → (∀ i', i ≤ i' → m1 83 i' = m 83 i') → ∃ m', f 75 (nI i) (enc c j w m1 n) = some (enc c j w m' n) ∧ (∀ y, y ≠ 75 → y ≠ 83 → m' y = m y) ∧ (∀ f, f ≠ 22 → m' 75 f = m 75 f) ∧ m' 75 22 = nI 16 ∧ (∀ i, i < 375 → m' 83 i = m 83 (25 + i)) ∧ ∀ i, i < 25 → m' 83 (375 + i) = m 82 i) ?_ ?_ 5000 0 (by omega) (by omega) m (fun _ _ => rfl) (fun i h => absurd h (Nat.not_lt_zero _)) (fun _ _ => rfl)
    · obtain ⟨m', a1, a2, a3, a4, a5, a6⟩ := L
      exact ⟨m', a1, a2, a3, a4, fun z => absurd z (by omega), fun _ => ⟨a5, a6⟩⟩
    · intro i f hi ih m1 f1 g1 o1
      unfold X11_note_L11_s
      rw [show (375 : Int32) = nI 375 from rfl, if_neg (by rw [N_le (by omega) (by omega)]; omega), R75_20, ob_some, ob_some, show nI i + 25 = nI (i + 25) from N_add i 25, M83 (by omega), ob_some, S83 (by omega), ob_some, show nI i + 1 = nI (i + 1) from N_add i 1]
      refine ih _ (fun y hy => by rw [vup_ne _ _ hy]; exact f1 y hy) (fun i' hi' => ?_) fun i' hi' => ?_
      · rw [vup_at]
        by_cases e : i' = i
        · subst e; rw [upd_at, o1 _ (by omega), Nat.add_comm]
        · rw [upd_ne e]; exact g1 i' (by omega)
      · rw [vup_at, upd_ne (by omega)]; exact o1 i' (by omega)
    · intro f m1 f1 g1 o1
      obtain ⟨m2, a1, a2, a3, a4, a5, a6⟩ := fin (va_up m1 75 (upd (m1 75) 22 (nI 15))) 15 (by omega) (by rw [vup_at, upd_at]) (by rw [vup_ne _ _ (by omega)]; exact f1 82 (by omega))
      refine ⟨m2, ?_, fun y h1 h2 => by rw [a2 y h1 h2, vup_ne _ _ h1]; exact f1 y h2, fun f hf => by rw [a3 f hf, vup_at, upd_ne hf, f1 75 (by omega)], a4, fun i hi => by rw [a5 i (by omega), vup_ne _ _ (by omega)]; exact g1 i hi, a6⟩
      unfold X11_note_L11_s
      rw [if_pos (by decide), I75_22, ob_some, f1 75 (by omega), e, show nI 16 - 1 = nI 15 from rfl, P75_22, ob_some]
      exact a1
  · rw [if_neg (by rw [show (16 : Int32) = nI 16 from rfl, N_inj (by omega) (by omega)]; exact e16)]
    obtain ⟨m2, a1, a2, a3, a4, a5, a6⟩ := fin m u (by omega) e rfl
    exact ⟨m2, a1, a2, a3, by rw [a4, Nat.min_eq_left (by omega)], fun _ => ⟨a5, a6⟩, fun z => absurd z e16⟩
/-- one act more -/
theorem AC_act {c c' m m' : Nat → Nat → Int32} (g : GV V) (gk : GK V K) (hK : MK m 82 0 V K) {l u : Nat} {H : Nat → Nat → Nat → Nat} (hl : l < 16) (hu : u ≤ 16) (hH : H u = K) (a7 : ∀ i, i < u → GK V (H i) ∧ MK m 83 (25 * i) V (H i) ∧ ∃ k col old, k < V 20 2 ∧ col < 3 ∧ old < 1000 ∧ c 58 ((l + 16 + i - u) % 16 * 3) = nI k ∧ c 58 ((l + 16 + i - u) % 16 * 3 + 1) = nI col ∧ c 58 ((l + 16 + i - u) % 16 * 3 + 2) = nI old ∧ H i = KP (H (i + 1)) k col old) {k col x : Nat} (hk : k < V 20 2) (hc : col < 3) (hold : K col k < 1000)
    (b1 : c' 56 1 = nI ((l + 1) % 16)) (b2 : c' 56 2 = nI (min (u + 1) 16)) (b3 : ∀ i, (i < l * 3 ∨ l * 3 + 2 < i) → c' 58 i = c 58 i) (b4 : c' 58 (l * 3) = nI k) (b5 : c' 58 (l * 3 + 1) = nI col) (b6 : c' 58 (l * 3 + 2) = nI (K col k))
    (d1 : m' 75 22 = nI (min (u + 1) 16)) (d2 : u < 16 → (∀ i, i < 25 * u → m' 83 i = m 83 i) ∧ ∀ i, i < 25 → m' 83 (25 * u + i) = m 82 i) (d3 : u = 16 → (∀ i, i < 375 → m' 83 i = m 83 (25 + i)) ∧ ∀ i, i < 25 → m' 83 (375 + i) = m 82 i) : AC c' m' V (KP K k col x) := by
  by_cases e : u = 16
  · subst e
    obtain ⟨p1, p2⟩ := d3 rfl
    refine ⟨(l + 1) % 16, 16, fun i => if i ≤ 15 then H (i + 1) else KP K k col x, by omega, by omega, b1, b2, d1, rfl, fun i hi => ?_⟩
    have hi' : i ≤ 15 := by omega
    simp only [if_pos hi']
    by_cases e2 : i = 15
    · subst e2
      rw [show 15 + 1 = 16 from rfl, hH, if_neg (by omega), show ((l + 1) % 16 + 16 + 15 - 16) % 16 = l by omega]
      refine ⟨gk, MK_cells g hK fun q hq => ?_, k, col, K col k, hk, hc, hold, b4, b5, b6, (KP_back K k col x).symm⟩
      rw [Nat.zero_add]; exact p2 q hq
    · obtain ⟨q1, q2, k', col', old', r1, r2, r3, r4, r5, r6, r7⟩ := a7 (i + 1) (by omega)
      rw [if_pos (show i + 1 ≤ 15 by omega), show ((l + 1) % 16 + 16 + i - 16) % 16 = (l + 16 + (i + 1) - 16) % 16 by omega]
      refine ⟨q1, MK_cells g q2 fun q hq => ?_, k', col', old', r1, r2, r3, ?_, ?_, ?_, r7⟩
      · rw [p1 _ (by omega)]; congr 1; omega
      · rw [b3 _ (by omega)]; exact r4
      · rw [b3 _ (by omega)]; exact r5
      · rw [b3 _ (by omega)]; exact r6
  · have hu' : u < 16 := by omega
    obtain ⟨p1, p2⟩ := d2 hu'
    rw [Nat.min_eq_left (by omega)] at b2 d1
    refine ⟨(l + 1) % 16, u + 1, fun i => if i ≤ u then H i else KP K k col x, by omega, by omega, b1, b2, d1, by show (if u + 1 ≤ u then _ else _) = _; rw [if_neg (by omega)], fun i hi => ?_⟩
    have hi' : i ≤ u := by omega
    simp only [if_pos hi']
    by_cases e2 : i = u
    · subst e2
      rw [hH, if_neg (by omega), show ((l + 1) % 16 + 16 + i - (i + 1)) % 16 = l by omega]
      refine ⟨gk, MK_cells g hK fun q hq => ?_, k, col, K col k, hk, hc, hold, b4, b5, b6, (KP_back K k col x).symm⟩
      rw [Nat.zero_add]; exact p2 q hq
    · obtain ⟨q1, q2, k', col', old', r1, r2, r3, r4, r5, r6, r7⟩ := a7 i (by omega)
      rw [if_pos (show i + 1 ≤ u by omega), show ((l + 1) % 16 + 16 + i - (u + 1)) % 16 = (l + 16 + i - u) % 16 by omega]
      refine ⟨q1, MK_cells g q2 fun q hq => p1 _ (by omega), k', col', old', r1, r2, r3, ?_, ?_, ?_, r7⟩
      · rw [b3 _ (by omega)]; exact r4
      · rw [b3 _ (by omega)]; exact r5
      · rw [b3 _ (by omega)]; exact r6
theorem K_lt (g : GV V) (gk : GK V K) {k col : Nat} (hk : k < V 20 2) (hc : col < 3) : K col k < 1000 := by
  have g5 := g.1.1
  obtain ⟨q0, q1, q2⟩ := gk k hk
  match col, hc with
  | 0, _ => omega
  | 1, _ => omega
  | 2, _ => omega
  | col + 3, z => omega
/-- an act, both sides: class make, reference note and put -/
theorem act_both (I : INV c w m) (u1 : c 0 11 = 1) (u2 : m 75 14 = 1) (U : UW c w m V K) {k col x : Nat} (hk : k < V 20 2) (hc : col < 3) (gk' : GK V (KP K k col x)) : ∃ c' m1, X0_make 56 35 (nI k) (nI col) (nI x) (enc (rf c 0) j w m n) = some (enc c' j w m n) ∧ CN c' w (w 0) V (KP K k col x) ∧ X11_note 75 (enc c' j w (gd m) n) = some (enc c' j w m1 n) ∧ MN m1 V K ∧ m1 75 14 = 1 ∧ ∀ m2 : Nat → Nat → Int32, (∀ y, 75 < y → y < 85 → y ≠ 82 → m2 y = m1 y) → (∀ f, 1 ≤ f → f < 31 → m2 75 f = m1 75 f) → MK m2 82 0 V (KP K k col x) → INV c' w m2 := by
  obtain ⟨hC, hM, ⟨l, u, H, a1, a2, a3, a4, a5, a6, a7⟩, hI⟩ := U
  obtain ⟨hv, hw, g, hV, gk, hK, h2⟩ := id hC
  have hC' := hC.rf 0
  obtain ⟨c', d1, f1, s1, s2, s3, s4, s5, s6, k1⟩ := c_make (c := rf c 0) (j := j) (w := w) (m := m) (n := n) (x := x) hC' a1 a2 (by rw [rf_o (by omega)]; exact a3) (by rw [rf_o (by omega)]; exact a4) hk hc
  obtain ⟨m1, e1, g1, g2, t1, t2, t3⟩ := m_note (c := c') (j := j) (w := w) (m := gd m) (n := n) a2 (by rw [gd_f (by omega) (by omega)]; exact a5)
  have fc : ∀ y, y ≠ 0 → y ≠ 56 → y ≠ 58 → y ≠ 37 → c' y = c y := fun y y0 y1 y2 y3 => by rw [f1 y y1 y2 y3, rf_o y0]
  have hCN : CN c' w (w 0) V (KP K k col x) := ⟨hv, hw, g, hV.fr hv fun y p q => fc y (by omega) (by omega) (by omega) (by omega), gk', k1, by rw [fc 35 (by omega) (by omega) (by omega) (by omega)]; exact h2⟩
  have gm : ∀ y, y ≠ 75 → y ≠ 83 → m1 y = m y := fun y y1 y2 => by rw [g1 y y1 y2, gd_o y1]
  have gf : ∀ f, f ≠ 0 → f ≠ 11 → f ≠ 22 → m1 75 f = m 75 f := fun f f0 f1 f2 => by rw [g2 f f2, gd_f f0 f1]
  have hMN : MN m1 V K := ⟨g, gk, hM.2.2.1.fr (gm 78 (by omega) (by omega)), hM.2.2.2.1.fr (gm 80 (by omega) (by omega)), hM.2.2.2.2.fr (gm 82 (by omega) (by omega))⟩
  refine ⟨c', m1, d1, hCN, e1, hMN, by rw [gf 14 (by omega) (by omega) (by omega)]; exact u2, fun m2 q1 q2 q3 => ?_⟩
  refine I.act u1 u2 (fun y p q => fc y (by omega) (by omega) (by omega) (by omega)) (fun f hf => by rw [f1 0 (by omega) (by omega) (by omega), rf_f (by omega)]) (fun y p q => by rw [q1 y p (by omega) (by omega), gm y (by omega) (by omega)]) (fun f p q r => by rw [q2 f p (by omega), gf f (by omega) r (by omega)]) (by rw [f1 0 (by omega) (by omega) (by omega), rf_t]) (by rw [q2 11 (by omega) (by omega), g2 11 (by omega), gd_t]) ⟨hCN, ⟨g, gk', hMN.2.2.1.fr (q1 78 (by omega) (by omega) (by omega)), hMN.2.2.2.1.fr (q1 80 (by omega) (by omega) (by omega)), q3⟩, ?_, ?_⟩
  · have e83 : m2 83 = m1 83 := q1 83 (by omega) (by omega) (by omega)
    refine AC_act (c := c) (m := m) g gk hM.2.2.2.2 a1 a2 a6 a7 hk hc (K_lt g gk hk hc) s1 s2 (fun i hi => by rw [s3 i hi, rf_o (by omega)]) s4 s5 s6 (by rw [q2 22 (by omega) (by omega)]; exact t1) (fun z => ?_) (fun z => ?_)
    · rw [e83]
      obtain ⟨p1, p2⟩ := t2 z
      rw [gd_o (by omega)] at p1 p2
      exact ⟨p1, p2⟩
    · rw [e83]
      obtain ⟨p1, p2⟩ := t3 z
      rw [gd_o (by omega)] at p1 p2
      exact ⟨p1, p2⟩
  · exact hI.q (by rw [f1 0 (by omega) (by omega) (by omega), rf_f (by omega)]) (fun y p q => fc y (by omega) (by omega) (by omega) (by omega)) (by rw [q2 23 (by omega) (by omega), gf 23 (by omega) (by omega) (by omega)]) (by rw [q1 84 (by omega) (by omega) (by omega), gm 84 (by omega) (by omega)])
theorem MK_course {a : Nat} (hK : MK m a 0 V K) (g : GV V) {k q : Nat} (hk : k < V 20 2) : MK (va_up m a (upd (m a) k (nI q))) a 0 V (KC K k q) := by
  have g12 := g.1.2.2.1
  obtain ⟨k1, M, hM, k2, k3⟩ := hK
  refine ⟨fun i hi => ?_, M, hM, ?_, fun i hi => ?_⟩
  · rw [vup_at]
    obtain ⟨q1, q2⟩ := k1 i hi
    refine ⟨?_, ?_⟩
    · unfold KC
      by_cases e : i = k
      · subst e; rw [if_pos ⟨rfl, rfl⟩]; unfold upd; rw [if_pos (by omega)]
      · rw [upd_ne (by omega), if_neg (fun z => e z.2)]; exact q1
    · rw [upd_ne (by omega)]; unfold KC; rw [if_neg (by omega)]; exact q2
  · rw [vup_at, upd_ne (by omega)]; exact k2
  · rw [k3 i hi]; unfold KC; rw [if_neg (by omega)]
theorem MK_att {a : Nat} (hK : MK m a 0 V K) (g : GV V) (gk : GK V K) {k : Nat} (hk : k < V 20 2) : ∃ M, M < 4096 ∧ m a 24 = nI M ∧ M ^^^ (1 <<< k) < 4096 ∧ (M ^^^ (1 <<< k)).testBit k = decide (1 - K 2 k = 1) ∧ MK (va_up m a (upd (m a) 24 (nI (M ^^^ (1 <<< k))))) a 0 V (KP K k 2 (1 - K 2 k)) := by
  have g12 := g.1.2.2.1
  have hp := pow12 g
  obtain ⟨k1, M, hM, k2, k3⟩ := hK
  have hs : 1 <<< k < 4096 := by rw [Nat.one_shiftLeft]; exact Nat.lt_of_lt_of_le (Nat.pow_lt_pow_right (by omega) hk) hp
  have hx : M ^^^ (1 <<< k) < 4096 := Nat.xor_lt_two_pow (n := 12) hM hs
  have hb : ∀ i, i < V 20 2 → (M ^^^ (1 <<< k)).testBit i = (KP K k 2 (1 - K 2 k) 2 i == 1) := fun i hi => by
    rw [Nat.testBit_xor, one_bit, k3 i hi]
    have := (gk i hi).2.2
    unfold KP
    by_cases e : i = k
    · subst e
      rw [if_pos ⟨rfl, rfl⟩]
      match hq : K 2 i, this with
      | 0, _ => simp
      | 1, _ => simp
      | q + 2, z => omega
    · rw [if_neg (fun z => e z.2)]; simp [e]
  refine ⟨M, hM, by rw [Nat.zero_add] at k2; exact k2, hx, ?_, fun i hi => ?_, M ^^^ (1 <<< k), hx, ?_, hb⟩
  · rw [hb k hk]; unfold KP; rw [if_pos ⟨rfl, rfl⟩]; rfl
  · rw [vup_at, upd_ne (by omega), upd_ne (by omega)]
    unfold KP; rw [if_neg (by omega), if_neg (by omega)]; exact k1 i hi
  · rw [vup_at, Nat.zero_add, upd_at]
theorem k_attend (I : INV c w m) (x : Int32) : CALL (X10_attend 0 x) (X11_attend 75 x) c j w m n := by
  obtain ⟨B, ⟨u1, u2, -⟩ | ⟨u1, u2, V, K, U⟩⟩ := id I
  · refine CALL.no I (x := 1) (r := -1) (by decide) ?_ ?_
    · unfold X10_attend X10_attend_B14
      rw [cV0, c_hasWn u1, bd_eq, if_pos rfl, cV0, c_ref1 (by decide), bd_eq, if_neg (by decide)]
    · unfold X11_attend
      rw [cVv75, m_good, ob_some, cV75, m_isWn (by rw [gd_14]; exact u2), bd_eq, if_pos rfl, cV75, m_no, bd_eq]
  · obtain ⟨hC, hM, -, -⟩ := id U
    have u2' : gd m 75 14 = 1 := by rw [gd_14]; exact u2
    obtain ⟨hv, hw, g, hV, gk, hK, h2⟩ := hC.rf 0
    have g12 := g.1.2.2.1
    rcases n_dec x (V 20 2) (by omega) with ⟨k, hk, rfl⟩ | hx
    · have k2 := (gk k hk).2.2
      obtain ⟨c', m1, d1, hC', e1, hM1, u14, fin⟩ := act_both (c := c) (j := j) (w := w) (m := m) (n := n) I u1 u2 U hk (show 2 < 3 by omega) (x := 1 - K 2 k) (GKP gk (fun z => by omega) (fun z => by omega) (fun _ => by omega))
      obtain ⟨M, hMl, hM24, hx, hbit, hMK⟩ := MK_att hM1.2.2.2.2 g gk hk
      have hdec : (if decide (1 - K 2 k = 1) = true then (1 : Int32) else 0) = nI (1 - K 2 k) := by
        match hq : K 2 k, k2 with
        | 0, _ => rfl
        | 1, _ => rfl
        | q + 2, z => omega
      refine ⟨nI (1 - K 2 k), c', j, w, va_up m1 82 (upd (m1 82) 24 (nI (M ^^^ (1 <<< k)))), n, ?_, ?_, fin _ (fun y p q r => vup_ne _ _ r) (fun f p q => by rw [vup_ne _ _ (by omega)]) hMK⟩
      · unfold X10_attend X10_attend_B14
        rw [cV0, c_hasW1 hC rfl u1 hk, bd_eq, if_neg (by decide), cV0, c_ref0, bd_eq, if_pos rfl, F0_2, ob_some, K_0 now_K, ob_some, cV_eq (T_is (K_wats now_K)), T_cell2 (K_wats now_K) (by omega) (by omega), bd_eq, (hK.1 k hk).2.2, show (1 : Int32) - nI (K 2 k) = nI (1 - K 2 k) by rw [show (1 : Int32) = nI 1 from rfl, N_sub (by omega)], pin_eq, F0_4, ob_some, F0_2, ob_some, cVv_eq F56_is, show X0_make 56 35 (nI k) 2 (nI (1 - K 2 k)) (enc (rf c 0) j w m n) = _ from d1, ob_some]
      · unfold X11_attend
        rw [cVv75, m_good, ob_some, cV75, m_isW1 hM.gd u2' hk, bd_eq, if_neg (by decide), cVv75, e1, ob_some, R75_19, ob_some, show aI (enc c' j w m1 n) 82 24 = some (m1 82 24) from M82 (i := 24) (by omega), ob_some, hM24, show (1 : Int32) <<< (nI k &&& 31) = nI (1 <<< k) from N_shl (a := 1) (by omega), N_xor, show ∀ z : Int32, sI (enc c' j w m1 n) 82 24 z = some (enc c' j w (va_up m1 82 (upd (m1 82) 24 z)) n) from fun z => S82 (i := 24) (by omega), ob_some, R75_19, ob_some, show ∀ m2 : Nat → Nat → Int32, aI (enc c' j w m2 n) 82 24 = some (m2 82 24) from fun m2 => M82 (i := 24) (by omega), ob_some, vup_at, upd_at, N_bit (by omega) (by omega), hbit, hdec]
    · refine CALL.no I (x := 1) (r := -1) (by decide) ?_ ?_
      · unfold X10_attend X10_attend_B14
        rw [cV0, c_hasW0 hC rfl u1 hx, bd_eq, if_pos rfl, cV0, c_ref1 (by decide), bd_eq, if_neg (by decide)]
      · unfold X11_attend
        rw [cVv75, m_good, ob_some, cV75, m_isW0 hM.gd u2' hx, bd_eq, if_pos rfl, cV75, m_no, bd_eq]
theorem c_st51 {x y q : Int32} (hq : q ≠ 0) : X10_steer_B51 0 x y 0 q (enc c j w m n) = some (0, enc (rf c q) j w m n) := by
  unfold X10_steer_B51
  rw [cV0, c_ref1 hq, bd_eq, if_neg (by decide), rZ_0]
theorem c_stR {x y q s : Int32} (hq : q ≠ 0) : X10_steer_B34 0 x y q s (enc c j w m n) = some (0, enc (rf c q) j w m n) := by
  unfold X10_steer_B34 X10_steer_B50
  rw [if_neg hq, c_st51 hq]
theorem k_steer (I : INV c w m) (x y : Int32) : CALL (X10_steer 0 x y) (X11_steer 75 x y) c j w m n := by
  obtain ⟨B, ⟨u1, u2, -⟩ | ⟨u1, u2, V, K, U⟩⟩ := id I
  · refine CALL.no I (x := 1) (r := 0) (by decide) ?_ ?_
    · obtain ⟨r, er⟩ := c_courseX y (enc c j w m n)
      obtain ⟨v1, ev⟩ := T_cellz (c := c) (j := j) (w := w) (m := m) (n := n) (K_wats now_K) x 1
      unfold X10_steer
      rw [cV0, c_hasWn u1, bd_eq, er, bd_eq, c_why1, bd_eq, F0_2, ob_some, K_0 now_K, ob_some, cV_eq (T_is (K_wats now_K)), ev, bd_eq, c_stR (by decide), c_stR (by decide)]
      simp only [ite_self]
    · unfold X11_steer
      rw [cVv75, m_good, ob_some, cV75, m_isWn (by rw [gd_14]; exact u2), bd_eq, if_pos rfl, cV75, m_isNot, bd_eq, rZ_0]
  · obtain ⟨hC, hM, -, -⟩ := id U
    have u2' : gd m 75 14 = 1 := by rw [gd_14]; exact u2
    obtain ⟨hv, hw, g, hV, gk, hK, h2⟩ := id hC
    have g12 := g.1.2.2.1
    rcases n_dec x (V 20 2) (by omega) with ⟨k, hk, rfl⟩ | hx
    · have k1 := (gk k hk).2.1
      rcases n_dec y 4 (by omega) with ⟨q, hq, rfl⟩ | hy
      · by_cases e : K 1 k = q
        · refine CALL.no I (x := 5) (r := 0) (by decide) ?_ ?_
          · unfold X10_steer X10_steer_B34
            rw [cV0, c_hasW1 hC rfl u1 hk, bd_eq, c_course1 hq, bd_eq, c_why0, bd_eq, F0_2, ob_some, K_0 now_K, ob_some, cV_eq (T_is (K_wats now_K)), T_cell1 (K_wats now_K) (by omega) (by omega), bd_eq, (hK.1 k hk).2.1, if_pos (by rw [e]), if_pos rfl, if_neg (by decide), c_st51 (by decide)]
          · unfold X11_steer
            rw [cVv75, m_good, ob_some, cV75, m_isW1 hM.gd u2' hk, bd_eq, if_neg (by decide), show X11_in (nI q) 0 3 (enc (rf c 5) j w (gd m) n) = _ from m_in1 (a := 0) (b := 3) (by omega) (by omega) (by omega) _, bd_eq, if_neg (by decide), R75_19, ob_some, m_stCourse hM.gd hk, ob_some, if_pos (by rw [e]), cV75, m_isNot, bd_eq, rZ_0]
        · have ne : nI (K 1 k) ≠ nI q := by rw [ne_eq, N_inj (by omega) (by omega)]; exact e
          obtain ⟨c', m1, d1, hC', e1, hM1, u14, fin⟩ := act_both (c := c) (j := j) (w := w) (m := m) (n := n) I u1 u2 U hk (show 1 < 3 by omega) (x := q) (GKP gk (fun z => by omega) (fun _ => hq) (fun z => by omega))
          refine ⟨1, c', j, w, va_up m1 82 (upd (m1 82) k (nI q)), n, ?_, ?_, fin _ (fun y p q r => vup_ne _ _ r) (fun f p q => by rw [vup_ne _ _ (by omega)]) (MK_course hM1.2.2.2.2 g hk)⟩
          · unfold X10_steer X10_steer_B34 X10_steer_B50 X10_steer_B51
            rw [cV0, c_hasW1 hC rfl u1 hk, bd_eq, c_course1 hq, bd_eq, c_why0, bd_eq, F0_2, ob_some, K_0 now_K, ob_some, cV_eq (T_is (K_wats now_K)), T_cell1 (K_wats now_K) (by omega) (by omega), bd_eq, (hK.1 k hk).2.1, if_neg ne, if_pos rfl, if_pos rfl, cV0, c_ref0, bd_eq, if_pos rfl, F0_4, ob_some, F0_2, ob_some, cVv_eq F56_is, show X0_make 56 35 (nI k) 1 (nI q) (enc (rf c 0) j w m n) = _ from d1, ob_some, rZ_1]
          · unfold X11_steer
            rw [cVv75, m_good, ob_some, cV75, m_isW1 hM.gd u2' hk, bd_eq, if_neg (by decide), show X11_in (nI q) 0 3 (enc c' j w (gd m) n) = _ from m_in1 (a := 0) (b := 3) (by omega) (by omega) (by omega) _, bd_eq, if_neg (by decide), R75_19, ob_some, m_stCourse hM.gd hk, ob_some, if_neg ne, cVv75, e1, ob_some, R75_19, ob_some, S82 (by omega), ob_some, rZ_1]
      · refine CALL.no I (x := 2) (r := 0) (by decide) ?_ ?_
        · obtain ⟨v1, ev⟩ := T_cellz (c := c) (j := j) (w := w) (m := m) (n := n) (K_wats now_K) (nI k) 1
          unfold X10_steer
          rw [cV0, c_hasW1 hC rfl u1 hk, bd_eq, c_course0 hy, bd_eq, c_why2, bd_eq, F0_2, ob_some, K_0 now_K, ob_some, cV_eq (T_is (K_wats now_K)), ev, bd_eq, c_stR (by decide), c_stR (by decide)]
          simp only [ite_self]
        · unfold X11_steer
          rw [cVv75, m_good, ob_some, cV75, m_isW1 hM.gd u2' hk, bd_eq, if_neg (by decide), show X11_in y 0 3 (enc (rf c 2) j w (gd m) n) = _ from m_in0 (b := 3) (by omega) hy _, bd_eq, if_pos rfl, cV75, m_isNot, bd_eq, rZ_0]
    · refine CALL.no I (x := 1) (r := 0) (by decide) ?_ ?_
      · obtain ⟨r, er⟩ := c_courseX y (enc c j w m n)
        obtain ⟨v1, ev⟩ := T_cellz (c := c) (j := j) (w := w) (m := m) (n := n) (K_wats now_K) x 1
        unfold X10_steer
        rw [cV0, c_hasW0 hC rfl u1 hx, bd_eq, er, bd_eq, c_why1, bd_eq, F0_2, ob_some, K_0 now_K, ob_some, cV_eq (T_is (K_wats now_K)), ev, bd_eq, c_stR (by decide), c_stR (by decide)]
        simp only [ite_self]
      · unfold X11_steer
        rw [cVv75, m_good, ob_some, cV75, m_isW0 hM.gd u2' hx, bd_eq, if_pos rfl, cV75, m_isNot, bd_eq, rZ_0]
theorem c_re64 {x y q : Int32} (hq : q ≠ 0) : X10_relieve_B64 0 x y 0 q (enc c j w m n) = some (-1, enc (rf c q) j w m n) := by
  unfold X10_relieve_B64
  rw [cV0, c_ref1 hq, bd_eq, if_neg (by decide)]
theorem c_reR {x y s : Int32} : X10_relieve_B43 0 x y 0 s (enc c j w m n) = some (-1, enc (rf c 1) j w m n) := by
  unfold X10_relieve_B43
  rw [if_pos rfl, c_re64 (by decide)]
theorem c_re21 {x y : Int32} : X10_relieve_B21 0 x y 0 (enc c j w m n) = some (-1, enc (rf c 1) j w m n) := by
  obtain ⟨v1, ev⟩ := T_cellz (c := c) (j := j) (w := w) (m := m) (n := n) (K_wats now_K) x 0
  unfold X10_relieve_B21
  rw [F0_2, ob_some, K_0 now_K, ob_some, cV_eq (T_is (K_wats now_K)), ev, bd_eq, c_reR, c_reR]
  simp only [ite_self]
theorem k_relieve (I : INV c w m) (x y : Int32) : CALL (X10_relieve 0 x y) (X11_relieve 75 x y) c j w m n := by
  obtain ⟨B, ⟨u1, u2, -⟩ | ⟨u1, u2, V, K, U⟩⟩ := id I
  · refine CALL.no I (x := 1) (r := -1) (by decide) ?_ ?_
    · unfold X10_relieve X10_relieve_B20
      rw [cV0, c_hasWn u1, bd_eq, if_pos rfl, c_re21]
    · unfold X11_relieve X11_relieve_B20
      rw [cVv75, m_good, ob_some, cV75, m_isWn (by rw [gd_14]; exact u2), bd_eq, if_pos rfl, cV75, m_no, bd_eq]
  · obtain ⟨hC, hM, -, -⟩ := id U
    have u2' : gd m 75 14 = 1 := by rw [gd_14]; exact u2
    obtain ⟨hv, hw, g, hV, gk, hK, h2⟩ := id hC
    have g12 := g.1.2.2.1
    have g5 := g.1.1
    rcases n_dec x (V 20 2) (by omega) with ⟨k, hk, rfl⟩ | hx
    · have k0 := (gk k hk).1
      rcases n_dec y (V 20 0) (by omega) with ⟨b, hb, rfl⟩ | hy
      · by_cases e : K 0 k = b
        · refine CALL.no I (x := 5) (r := -1) (by decide) ?_ ?_
          · unfold X10_relieve X10_relieve_B21 X10_relieve_B43
            rw [cV0, c_hasW1 hC rfl u1 hk, bd_eq, if_neg (by decide), cV0, c_hasB1 hC rfl u1 hb, bd_eq, if_neg (by decide), F0_2, ob_some, K_0 now_K, ob_some, cV_eq (T_is (K_wats now_K)), T_cell0 (K_wats now_K) (by omega) (by omega), bd_eq, (hK.1 k hk).1, if_pos (by rw [e]), if_neg (by decide), if_neg (by decide), c_re64 (by decide)]
          · unfold X11_relieve
            rw [cVv75, m_good, ob_some, cV75, m_isW1 hM.gd u2' hk, bd_eq, if_neg (by decide), cV75, m_isB1 hM.gd u2' hb, bd_eq, if_neg (by decide), R75_19, ob_some, m_stWho hM.gd hk, ob_some, if_pos (by rw [e]), cV75, m_no, bd_eq]
        · have ne : nI (K 0 k) ≠ nI b := by rw [ne_eq, N_inj (by omega) (by omega)]; exact e
          have gk' : GK V (KP K k 0 b) := GKP gk (fun _ => hb) (fun z => by omega) (fun z => by omega)
          obtain ⟨c', m1, d1, hC', e1, hM1, u14, fin⟩ := act_both (c := c) (j := j) (w := w) (m := m) (n := n) I u1 u2 U hk (show 0 < 3 by omega) (x := b) gk'
          have hMN2 : MN (va_up m1 82 (upd (m1 82) (12 + k) (nI b))) V (KP K k 0 b) := ⟨g, gk', hM1.2.2.1.fr (vup_ne _ _ (by omega)), hM1.2.2.2.1.fr (vup_ne _ _ (by omega)), MK_boy hM1.2.2.2.2 g hk⟩
          obtain ⟨m3, e3, l3, -, t3, -⟩ := m_ldS (c := c') (j := j) (w := w) (m := va_up m1 82 (upd (m1 82) (12 + k) (nI b))) (n := n) hMN2
          obtain ⟨m4, e4, q4⟩ := m_stl (c := c') (j := j) (w := w) (m := m3) (n := n) t3 hk
          have l4 := l3.tr q4.ls
          obtain ⟨hv', hw', -, hV', -, hK', -⟩ := id hC'
          refine ⟨nI (stl V (KP K k 0 b) (V 1) k), c', j, w, m4, n, ?_, ?_, fin _ (fun y p q r => by rw [l4.1 y (by omega) (by omega)]; exact vup_ne _ _ r) (fun f p q => by rw [l4.2 f (by omega), vup_ne _ _ (by omega)]) (hMN2.mf l4.mf).2.2.2.2⟩
          · unfold X10_relieve X10_relieve_B21 X10_relieve_B43 X10_relieve_B64
            rw [cV0, c_hasW1 hC rfl u1 hk, bd_eq, if_neg (by decide), cV0, c_hasB1 hC rfl u1 hb, bd_eq, if_neg (by decide), F0_2, ob_some, K_0 now_K, ob_some, cV_eq (T_is (K_wats now_K)), T_cell0 (K_wats now_K) (by omega) (by omega), bd_eq, (hK.1 k hk).1, if_neg ne, if_neg (by decide), if_pos rfl, cV0, c_ref0, bd_eq, if_pos rfl, F0_4, ob_some, F0_2, ob_some, cVv_eq F56_is, show X0_make 56 35 (nI k) 0 (nI b) (enc (rf c 0) j w m n) = _ from d1, ob_some, F0_5, ob_some, F0_2, ob_some, cV59, c_stolen hv' hw' now_K g gk' (GE1 g) hV' hK' hk, bd_eq]
          · unfold X11_relieve
            rw [cVv75, m_good, ob_some, cV75, m_isW1 hM.gd u2' hk, bd_eq, if_neg (by decide), cV75, m_isB1 hM.gd u2' hb, bd_eq, if_neg (by decide), R75_19, ob_some, m_stWho hM.gd hk, ob_some, if_neg ne, cVv75, e1, ob_some, R75_19, ob_some, show (12 : Int32) + nI k = nI (12 + k) from N_add 12 k, S82 (by omega), ob_some, R75_19, ob_some, cVv75, e3, ob_some, cV75, e4, bd_eq]
      · refine CALL.no I (x := 1) (r := -1) (by decide) ?_ ?_
        · unfold X10_relieve X10_relieve_B20
          rw [cV0, c_hasW1 hC rfl u1 hk, bd_eq, if_neg (by decide), cV0, c_hasB0 hC rfl u1 hy, bd_eq, if_pos rfl, c_re21]
        · unfold X11_relieve X11_relieve_B20
          rw [cVv75, m_good, ob_some, cV75, m_isW1 hM.gd u2' hk, bd_eq, if_neg (by decide), cV75, m_isB0 hM.gd u2' hy, bd_eq, if_pos rfl, cV75, m_no, bd_eq]
    · refine CALL.no I (x := 1) (r := -1) (by decide) ?_ ?_
      · unfold X10_relieve X10_relieve_B20
        rw [cV0, c_hasW0 hC rfl u1 hx, bd_eq, if_pos rfl, c_re21]
      · unfold X11_relieve X11_relieve_B20
        rw [cVv75, m_good, ob_some, cV75, m_isW0 hM.gd u2' hx, bd_eq, if_pos rfl, cV75, m_no, bd_eq]
end
