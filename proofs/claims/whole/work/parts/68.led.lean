/-! the calls: sizes; watches in which nothing is stolen -/
section
variable {c : Nat → Nat → Int32} {j : Nat → Nat → Int64} {w : Nat → Nat} {m : Nat → Nat → Int32} {n : Nat → Nat → Int64} {v : Nat} {V K : Nat → Nat → Nat}
theorem k_size (I : INV c w m) (x : Int32) : CALL (X10_size 0 x) (X11_size 75 x) c j w m n := by
  obtain ⟨B, hr⟩ := id I
  have hv : isV (w 0) := BS_w B
  obtain ⟨t, t1, t2, t3, -⟩ := B.2.2.1
  have tm : ∀ f, f ≠ 0 → th0 m 0 75 f = m 75 f := fun f hf => th0_f hf
  have fin : ∀ r, X10_size 0 x (enc c j w m n) = some (r, enc c j w m n) → X11_size 75 x (enc c j w m n) = some (r, enc c j w (th0 m 0) n) → CALL (X10_size 0 x) (X11_size 75 x) c j w m n := fun r a b => ⟨r, c, j, w, th0 m 0, n, a, b, I.th 0⟩
  rcases n_dec x 12 (by omega) with ⟨i, hi, rfl⟩ | hx
  · rcases hr with ⟨u1, u2, n1, n2, n3, n4, n5, n6, n7, -⟩ | ⟨u1, u2, V, K, hC, hM, hA, hI⟩
    · have M : i ≠ 11 → X11_size 75 (nI i) (enc c j w m n) = some (0, enc c j w (th0 m 0) n) := by
        intro h
        unfold X11_size
        rw [P75_0, ob_some, show va_up m 75 (upd (m 75) 0 0) = th0 m 0 from rfl, if_neg (by rw [show (11 : Int32) = nI 11 from rfl, N_inj (by omega) (by omega)]; exact h), I75_14, ob_some, tm 14 (by omega), u2, if_pos rfl, show X11_in (nI i) 0 10 (enc c j w (th0 m 0) n) = _ from m_in1 (a := 0) (b := 10) (by omega) (by omega) (by omega) _, bd_eq, if_neg (by decide)]
      have q : ∀ t, t < 7 → gI (enc c j w m n) (w 0 + 1 + 2 * t) 8 3 = some (c (w 0 + 1 + 2 * t) 3) := by
        intro t ht
        match t, ht with
        | 0, _ => exact T_count (V_boys hv)
        | 1, _ => exact T_count (V_offs hv)
        | 2, _ => exact T_count (V_wats hv)
        | 3, _ => exact T_count (V_noons hv)
        | 4, _ => exact T_count (V_shoals hv)
        | 5, _ => exact T_count (V_unsure hv)
        | 6, _ => exact T_count (V_found hv)
        | t + 7, z => omega
      have q' : ∀ t, t < 7 → gI (enc c j w m n) (w 0 + 1 + 2 * t) 8 3 = some 0 := fun t ht => by rw [q t ht, n1 t ht]
      match i, hi with
      | 0, _ => exact fin 0 (by unfold X10_size; rw [if_pos (by rfl), F0_9, ob_some, V_i hv (by omega) (by omega), ob_some, n2]) (M (by omega))
      | 1, _ => exact fin 0 (by unfold X10_size; rw [if_neg (by decide), if_pos (by rfl), F0_9, ob_some, V_i hv (by omega) (by omega), ob_some, n3]) (M (by omega))
      | 2, _ => exact fin 0 (by unfold X10_size; rw [if_neg (by decide), if_neg (by decide), if_pos (by rfl), F0_9, ob_some, V_0 hv, ob_some, show gI (enc c j w m n) (w 0 + 1) 8 3 = _ from q' 0 (by omega), ob_some]) (M (by omega))
      | 3, _ => exact fin 0 (by unfold X10_size; rw [if_neg (by decide), if_neg (by decide), if_neg (by decide), if_pos (by rfl), F0_9, ob_some, V_1 hv, ob_some, show gI (enc c j w m n) (w 0 + 3) 8 3 = _ from q' 1 (by omega), ob_some]) (M (by omega))
      | 4, _ => exact fin 0 (by unfold X10_size; rw [if_neg (by decide), if_neg (by decide), if_neg (by decide), if_neg (by decide), if_pos (by rfl), F0_9, ob_some, V_2 hv, ob_some, show gI (enc c j w m n) (w 0 + 5) 8 3 = _ from q' 2 (by omega), ob_some]) (M (by omega))
      | 5, _ => exact fin 0 (by unfold X10_size; rw [if_neg (by decide), if_neg (by decide), if_neg (by decide), if_neg (by decide), if_neg (by decide), if_pos (by rfl), F0_9, ob_some, V_3 hv, ob_some, show gI (enc c j w m n) (w 0 + 7) 8 3 = _ from q' 3 (by omega), ob_some]) (M (by omega))
      | 6, _ => exact fin 0 (by unfold X10_size; rw [if_neg (by decide), if_neg (by decide), if_neg (by decide), if_neg (by decide), if_neg (by decide), if_neg (by decide), if_pos (by rfl), F0_9, ob_some, V_4 hv, ob_some, show gI (enc c j w m n) (w 0 + 9) 8 3 = _ from q' 4 (by omega), ob_some]) (M (by omega))
      | 7, _ => exact fin 0 (by unfold X10_size; rw [if_neg (by decide), if_neg (by decide), if_neg (by decide), if_neg (by decide), if_neg (by decide), if_neg (by decide), if_neg (by decide), if_pos (by rfl), F0_9, ob_some, V_5 hv, ob_some, show gI (enc c j w m n) (w 0 + 11) 8 3 = _ from q' 5 (by omega), ob_some]) (M (by omega))
      | 8, _ => exact fin 0 (by unfold X10_size; rw [if_neg (by decide), if_neg (by decide), if_neg (by decide), if_neg (by decide), if_neg (by decide), if_neg (by decide), if_neg (by decide), if_neg (by decide), if_pos (by rfl), F0_9, ob_some, V_6 hv, ob_some, show gI (enc c j w m n) (w 0 + 13) 8 3 = _ from q' 6 (by omega), ob_some]) (M (by omega))
      | 9, _ => exact fin 0 (by unfold X10_size; rw [if_neg (by decide), if_neg (by decide), if_neg (by decide), if_neg (by decide), if_neg (by decide), if_neg (by decide), if_neg (by decide), if_neg (by decide), if_neg (by decide), if_pos (by rfl), F0_4, ob_some, show gI (enc c j w m n) 56 0 2 = some (c 56 2) from gI_c rfl rfl (by decide), ob_some, n6]) (M (by omega))
      | 10, _ => exact fin 0 (by unfold X10_size; rw [if_neg (by decide), if_neg (by decide), if_neg (by decide), if_neg (by decide), if_neg (by decide), if_neg (by decide), if_neg (by decide), if_neg (by decide), if_neg (by decide), if_neg (by decide), if_pos (by rfl), F0_13, ob_some, n4]) (M (by omega))
      | 11, _ => exact fin (nI t) (by unfold X10_size; rw [if_neg (by decide), if_neg (by decide), if_neg (by decide), if_neg (by decide), if_neg (by decide), if_neg (by decide), if_neg (by decide), if_neg (by decide), if_neg (by decide), if_neg (by decide), if_neg (by decide), if_pos (by rfl), F0_12, ob_some, t2]) (by unfold X11_size; rw [P75_0, ob_some, show va_up m 75 (upd (m 75) 0 0) = th0 m 0 from rfl, if_pos (by rfl), I75_2, ob_some, tm 2 (by omega), t3])
      | i + 12, z => omega
    · obtain ⟨l, u, H, -, -, -, a4, a5, -, -⟩ := hA
      obtain ⟨im, J, -, i2, i3, -⟩ := hI
      have hV := hC.2.2.2.1
      have hMV : MV (th0 m 0) 78 V := hM.2.2.1.fr (th0_o (by omega))
      have M : i < 9 → X11_size 75 (nI i) (enc c j w m n) = some (th0 m 0 78 i, enc c j w (th0 m 0) n) := by
        intro h
        unfold X11_size
        rw [P75_0, ob_some, show va_up m 75 (upd (m 75) 0 0) = th0 m 0 from rfl, if_neg (by rw [show (11 : Int32) = nI 11 from rfl, N_inj (by omega) (by omega)]; omega), I75_14, ob_some, tm 14 (by omega), u2, if_neg (by decide), show X11_in (nI i) 0 8 (enc c j w (th0 m 0) n) = _ from m_in1 (a := 0) (b := 8) (by omega) (by omega) (by omega) _, bd_eq, if_neg (by decide), R75_15, ob_some, M78 (by omega), ob_some]
      have M2 : ∀ i, 9 ≤ i → i < 11 → X11_in (nI i) 0 8 (enc c j w (th0 m 0) n) = some (0, enc c j w (th0 m 0) n) := fun i h1 h2 => m_in0 (b := 8) (by omega) (Or.inr ⟨by rw [N_lt0 (by omega)]; exact id, by rw [N_le (by omega) (by omega)]; omega⟩) _
      match i, hi with
      | 0, _ => exact fin _ (by unfold X10_size; rw [if_pos (by rfl), F0_9, ob_some, V_i hv (by omega) (by omega), ob_some, show c (w 0) 10 = nI (V 20 9) from hV.2.1 2 (by omega), ← hMV.1.1]) (M (by omega))
      | 1, _ => exact fin _ (by unfold X10_size; rw [if_neg (by decide), if_pos (by rfl), F0_9, ob_some, V_i hv (by omega) (by omega), ob_some, show c (w 0) 11 = nI (V 20 10) from hV.2.1 3 (by omega), ← hMV.1.2.1]) (M (by omega))
      | 2, _ => exact fin _ (by unfold X10_size; rw [if_neg (by decide), if_neg (by decide), if_pos (by rfl), F0_9, ob_some, V_0 hv, ob_some, T_count (V_boys hv), ob_some, show c (w 0 + 1) 3 = nI (V 20 0) from hV.1 0 (by omega), ← show th0 m 0 78 2 = nI (V 20 0) from hMV.2.1 0 (by omega)]) (M (by omega))
      | 3, _ => exact fin _ (by unfold X10_size; rw [if_neg (by decide), if_neg (by decide), if_neg (by decide), if_pos (by rfl), F0_9, ob_some, V_1 hv, ob_some, T_count (V_offs hv), ob_some, show c (w 0 + 3) 3 = nI (V 20 1) from hV.1 1 (by omega), ← show th0 m 0 78 3 = nI (V 20 1) from hMV.2.1 1 (by omega)]) (M (by omega))
      | 4, _ => exact fin _ (by unfold X10_size; rw [if_neg (by decide), if_neg (by decide), if_neg (by decide), if_neg (by decide), if_pos (by rfl), F0_9, ob_some, V_2 hv, ob_some, T_count (V_wats hv), ob_some, show c (w 0 + 5) 3 = nI (V 20 2) from hV.1 2 (by omega), ← show th0 m 0 78 4 = nI (V 20 2) from hMV.2.1 2 (by omega)]) (M (by omega))
      | 5, _ => exact fin _ (by unfold X10_size; rw [if_neg (by decide), if_neg (by decide), if_neg (by decide), if_neg (by decide), if_neg (by decide), if_pos (by rfl), F0_9, ob_some, V_3 hv, ob_some, T_count (V_noons hv), ob_some, show c (w 0 + 7) 3 = nI (V 20 3) from hV.1 3 (by omega), ← show th0 m 0 78 5 = nI (V 20 3) from hMV.2.1 3 (by omega)]) (M (by omega))
      | 6, _ => exact fin _ (by unfold X10_size; rw [if_neg (by decide), if_neg (by decide), if_neg (by decide), if_neg (by decide), if_neg (by decide), if_neg (by decide), if_pos (by rfl), F0_9, ob_some, V_4 hv, ob_some, T_count (V_shoals hv), ob_some, show c (w 0 + 9) 3 = nI (V 20 4) from hV.1 4 (by omega), ← show th0 m 0 78 6 = nI (V 20 4) from hMV.2.1 4 (by omega)]) (M (by omega))
      | 7, _ => exact fin _ (by unfold X10_size; rw [if_neg (by decide), if_neg (by decide), if_neg (by decide), if_neg (by decide), if_neg (by decide), if_neg (by decide), if_neg (by decide), if_pos (by rfl), F0_9, ob_some, V_5 hv, ob_some, T_count (V_unsure hv), ob_some, show c (w 0 + 11) 3 = nI (V 20 5) from hV.1 5 (by omega), ← show th0 m 0 78 7 = nI (V 20 5) from hMV.2.1 5 (by omega)]) (M (by omega))
      | 8, _ => exact fin _ (by unfold X10_size; rw [if_neg (by decide), if_neg (by decide), if_neg (by decide), if_neg (by decide), if_neg (by decide), if_neg (by decide), if_neg (by decide), if_neg (by decide), if_pos (by rfl), F0_9, ob_some, V_6 hv, ob_some, T_count (V_found hv), ob_some, show c (w 0 + 13) 3 = nI (V 20 6) from hV.1 6 (by omega), ← show th0 m 0 78 8 = nI (V 20 6) from hMV.2.1 6 (by omega)]) (M (by omega))
      | 9, _ => exact fin (nI u) (by unfold X10_size; rw [if_neg (by decide), if_neg (by decide), if_neg (by decide), if_neg (by decide), if_neg (by decide), if_neg (by decide), if_neg (by decide), if_neg (by decide), if_neg (by decide), if_pos (by rfl), F0_4, ob_some, show gI (enc c j w m n) 56 0 2 = some (c 56 2) from gI_c rfl rfl (by decide), ob_some, a4]) (by unfold X11_size; rw [P75_0, ob_some, show va_up m 75 (upd (m 75) 0 0) = th0 m 0 from rfl, if_neg (by decide), I75_14, ob_some, tm 14 (by omega), u2, if_neg (by decide), M2 9 (by omega) (by omega), bd_eq, if_pos rfl, if_pos (by rfl), I75_22, ob_some, tm 22 (by omega), a5])
      | 10, _ => exact fin (nI im) (by unfold X10_size; rw [if_neg (by decide), if_neg (by decide), if_neg (by decide), if_neg (by decide), if_neg (by decide), if_neg (by decide), if_neg (by decide), if_neg (by decide), if_neg (by decide), if_neg (by decide), if_pos (by rfl), F0_13, ob_some, i2]) (by unfold X11_size; rw [P75_0, ob_some, show va_up m 75 (upd (m 75) 0 0) = th0 m 0 from rfl, if_neg (by decide), I75_14, ob_some, tm 14 (by omega), u2, if_neg (by decide), M2 10 (by omega) (by omega), bd_eq, if_pos rfl, if_neg (by decide), if_pos (by rfl), I75_23, ob_some, tm 23 (by omega), i3])
      | 11, _ => exact fin (nI t) (by unfold X10_size; rw [if_neg (by decide), if_neg (by decide), if_neg (by decide), if_neg (by decide), if_neg (by decide), if_neg (by decide), if_neg (by decide), if_neg (by decide), if_neg (by decide), if_neg (by decide), if_neg (by decide), if_pos (by rfl), F0_12, ob_some, t2]) (by unfold X11_size; rw [P75_0, ob_some, show va_up m 75 (upd (m 75) 0 0) = th0 m 0 from rfl, if_pos (by rfl), I75_2, ob_some, tm 2 (by omega), t3])
      | i + 12, z => omega
  · have ne : ∀ i : Nat, i < 12 → x ≠ nI i := fun i hi z => by
      subst z
      rcases hx with q | ⟨q1, q2⟩
      · rw [N_lt0 (by omega)] at q; exact q
      · rw [N_le (by omega) (by omega)] at q2; omega
    have up : ∀ b : Nat, b < 12 → (x < 0 ∨ (¬ x < 0 ∧ nI (b + 1) ≤ x)) := fun b hb => hx.imp id fun z => ⟨z.1, Int32.le_trans (by rw [N_le (by omega) (by omega)]; omega) z.2⟩
    refine fin (-1) ?_ ?_
    · unfold X10_size
      rw [if_neg (show ¬ x = 0 from ne 0 (by omega)), if_neg (show ¬ x = 1 from ne 1 (by omega)), if_neg (show ¬ x = 2 from ne 2 (by omega)), if_neg (show ¬ x = 3 from ne 3 (by omega)), if_neg (show ¬ x = 4 from ne 4 (by omega)), if_neg (show ¬ x = 5 from ne 5 (by omega)), if_neg (show ¬ x = 6 from ne 6 (by omega)), if_neg (show ¬ x = 7 from ne 7 (by omega)), if_neg (show ¬ x = 8 from ne 8 (by omega)), if_neg (show ¬ x = 9 from ne 9 (by omega)), if_neg (show ¬ x = 10 from ne 10 (by omega)), if_neg (show ¬ x = 11 from ne 11 (by omega))]
    · unfold X11_size
      rw [P75_0, ob_some, show va_up m 75 (upd (m 75) 0 0) = th0 m 0 from rfl, if_neg (show ¬ x = 11 from ne 11 (by omega)), I75_14, ob_some, tm 14 (by omega)]
      rcases hr with ⟨u1, u2, -⟩ | ⟨u1, u2, -⟩
      · rw [u2, if_pos rfl, show X11_in x 0 10 (enc c j w (th0 m 0) n) = _ from m_in0 (b := 10) (by omega) (up 10 (by omega)) _, bd_eq, if_pos rfl]
      · rw [u2, if_neg (by decide), show X11_in x 0 8 (enc c j w (th0 m 0) n) = _ from m_in0 (b := 8) (by omega) (up 8 (by omega)) _, bd_eq, if_pos rfl, if_neg (show ¬ x = 9 from ne 9 (by omega)), if_neg (show ¬ x = 10 from ne 10 (by omega))]
def nz (V K : Nat → Nat → Nat) (k : Nat) : Bool := lNw V K k == 0
def ldF (V K : Nat → Nat → Nat) (i : Nat) : Int := fiF (fun k => nz V K k && cnt (nz V K) k == i) (V 20 2)
theorem c_ledL (h : CN c w v V K) (h0 : w 0 = v) (hu : c 0 11 = 1) {i : Nat} (hi : i < 2147483648) : X10_led_L4 5000 0 (nI i) 0 (enc c j w m n) = some (if ldF V K i = -2 then none else some (iI (ldF V K i)), enc c j w m n) := by
  obtain ⟨hv, hw, g, hV, gk, hK, h2⟩ := id h
  have g12 := g.1.2.2.1
  have L := loop_up (z := fun _ _ _ _ => none) (s := X10_led_L4_s) (V 20 2) (fun k f => cnt (nz V K) k ≤ i → (∀ k', k' < k → (nz V K k' && cnt (nz V K) k' == i) = false) → f 0 (nI (i - cnt (nz V K) k)) (nI k) (enc c j w m n) = some (if ldF V K i = -2 then none else some (iI (ldF V K i)), enc c j w m n)) ?_ ?_ 5000 0 (Nat.zero_le _) (by omega) (Nat.zero_le _) (fun k hk => absurd hk (Nat.not_lt_zero _))
  · exact L
  · intro k f hk ih hc hn
    have st : X6_stolenIn 59 35 (nI k) (enc c j w m n) = some (nI (lNw V K k), enc c j w m n) := c_stolen hv hw now_K g gk (GE1 g) hV hK hk
    have hl := lNw_le g gk k hk
    have ck := cnt_le (p := nz V K) k
    have ext : (nz V K k && cnt (nz V K) k == i) = false → ∀ k', k' < k + 1 → (nz V K k' && cnt (nz V K) k' == i) = false := fun e k' hk' => by
      rcases Nat.lt_or_eq_of_le (Nat.le_of_lt_succ hk') with h1 | h1
      · exact hn k' h1
      · subst h1; exact e
    unfold X10_led_L4_s X10_led_B53
    rw [F0_11, ob_some, hu, if_neg (by decide), if_neg (by rw [N_lt0 (by omega)]; exact id), F0_9, ob_some, h0, V_2 hv, ob_some, c_cW h h0, ob_some, if_neg (by rw [N_le (by omega) (by omega)]; omega), F0_5, ob_some, F0_2, ob_some, cV59, st, bd_eq, show nI k + 1 = nI (k + 1) from N_add k 1]
    have hcs : cnt (nz V K) (k + 1) = cnt (nz V K) k + (if nz V K k then 1 else 0) := cnt_succ
    by_cases e : lNw V K k = 0
    · have en : nz V K k = true := by unfold nz; simp [e]
      rw [en, if_pos rfl] at hcs
      rw [if_pos (by rw [e]; rfl)]
      by_cases e2 : cnt (nz V K) k = i
      · have ed : ldF V K i = k := fiF_at (p := fun k => nz V K k && cnt (nz V K) k == i) (by simp [en, e2]) hn hk
        rw [if_pos (by rw [e2, Nat.sub_self]; rfl), ed, if_neg (by omega), nI_iI]
      · rw [if_neg (by rw [show (0 : Int32) = nI 0 from rfl, N_inj (by omega) (by omega)]; omega)]
        have := ih (by omega) (ext (by simp [e2]))
        rw [show nI (i - cnt (nz V K) k) + -1 = nI (i - cnt (nz V K) (k + 1)) by rw [nI_iI, nI_iI, show (-1 : Int32) = iI (-1) from rfl, Z_add]; exact congrArg iI (by omega)]
        exact this
    · have en : nz V K k = false := by unfold nz; simp [e]
      rw [en, if_neg (by decide)] at hcs
      rw [if_neg (by rw [show (0 : Int32) = nI 0 from rfl, N_inj (by omega) (by omega)]; exact e)]
      have := ih (by omega) (ext (by simp [en]))
      rw [hcs] at this; exact this
  · intro f hc hn
    unfold X10_led_L4_s X10_led_B59
    rw [F0_11, ob_some, hu, if_neg (by decide), if_neg (by rw [N_lt0 (by omega)]; exact id), F0_9, ob_some, h0, V_2 hv, ob_some, c_cW h h0, ob_some, if_pos (by rw [N_le (by omega) (by omega)]; omega), show ldF V K i = -2 from fiF_none hn, if_pos rfl]
theorem m_ledL (h : MN m V K) (hu : m 75 14 = 1) (hs : ∀ k, k < V 20 2 → m 87 k = nI (lNw V K k)) {i : Nat} (hi : i < 2147483648) : X11_led_L15 5000 75 (nI i) 0 0 (enc c j w m n) = some (if ldF V K i = -2 then 0 else iI (ldF V K i), enc c j w (th0 m (if ldF V K i = -2 then 1 else 0)) n) := by
  have g := h.1
  have gk := h.2.1
  have g12 := g.1.2.2.1
  refine loop_up (z := fun _ _ _ _ _ => none) (s := X11_led_L15_s) (V 20 2) (fun k f => (∀ k', k' < k → (nz V K k' && cnt (nz V K) k' == i) = false) → f 75 (nI i) (nI (cnt (nz V K) k)) (nI k) (enc c j w m n) = some (if ldF V K i = -2 then 0 else iI (ldF V K i), enc c j w (th0 m (if ldF V K i = -2 then 1 else 0)) n)) ?_ ?_ 5000 0 (Nat.zero_le _) (by omega) (fun k hk => absurd hk (Nat.not_lt_zero _))
  · intro k f hk ih hn
    have hl := lNw_le g gk k hk
    have ck := cnt_le (p := nz V K) k
    have ext : (nz V K k && cnt (nz V K) k == i) = false → ∀ k', k' < k + 1 → (nz V K k' && cnt (nz V K) k' == i) = false := fun e k' hk' => by
      rcases Nat.lt_or_eq_of_le (Nat.le_of_lt_succ hk') with h1 | h1
      · exact hn k' h1
      · subst h1; exact e
    unfold X11_led_L15_s X11_led_B59
    rw [I75_14, ob_some, hu, if_neg (by decide), R75_15, ob_some, rW h.2.2.1, ob_some, if_neg (by rw [N_le (by omega) (by omega)]; omega), R75_26, ob_some, M87 (by omega), ob_some, hs k hk, show nI k + 1 = nI (k + 1) from N_add k 1]
    have hcs : cnt (nz V K) (k + 1) = cnt (nz V K) k + (if nz V K k then 1 else 0) := cnt_succ
    by_cases e : lNw V K k = 0
    · have en : nz V K k = true := by unfold nz; simp [e]
      rw [en, if_pos rfl] at hcs
      rw [if_pos (by rw [e]; decide)]
      by_cases e2 : cnt (nz V K) k = i
      · have ed : ldF V K i = k := fiF_at (p := fun k => nz V K k && cnt (nz V K) k == i) (by simp [en, e2]) hn hk
        rw [if_pos (by rw [e2]), P75_0, ob_some, ed, if_neg (by omega), if_neg (by omega), nI_iI]
        rfl
      · rw [if_neg (by rw [N_inj (by omega) (by omega)]; exact e2), show nI (cnt (nz V K) k) + 1 = nI (cnt (nz V K) k + 1) from N_add _ 1]
        have := ih (ext (by simp [e2]))
        rw [hcs] at this; exact this
    · have en : nz V K k = false := by unfold nz; simp [e]
      rw [en, if_neg (by decide)] at hcs
      rw [if_neg (by rw [show (0 : Int32) = nI 0 from rfl, N_le (by omega) (by omega)]; omega)]
      have := ih (ext (by simp [en]))
      rw [hcs] at this; exact this
  · intro f hn
    unfold X11_led_L15_s X11_led_B65
    rw [I75_14, ob_some, hu, if_neg (by decide), R75_15, ob_some, rW h.2.2.1, ob_some, if_pos (by rw [N_le (by omega) (by omega)]; omega), P75_0, ob_some, show ldF V K i = -2 from fiF_none hn, if_pos rfl, if_pos rfl]
    rfl
theorem m_ledN (h : MN m V K) (hu : m 75 14 = 1) (hs : ∀ k, k < V 20 2 → m 87 k = nI (lNw V K k)) {x : Int32} (hx : x < 0) : X11_led_L15 5000 75 x 0 0 (enc c j w m n) = some (0, enc c j w (th0 m 1) n) := by
  have g := h.1
  have gk := h.2.1
  have g12 := g.1.2.2.1
  refine loop_up (z := fun _ _ _ _ _ => none) (s := X11_led_L15_s) (V 20 2) (fun k f => ∀ q, q ≤ k → f 75 x (nI q) (nI k) (enc c j w m n) = some (0, enc c j w (th0 m 1) n)) ?_ ?_ 5000 0 (Nat.zero_le _) (by omega) 0 (Nat.le_refl _)
  · intro k f hk ih q hq
    have ne : nI q ≠ x := fun z => by rw [← z, N_lt0 (by omega)] at hx; exact hx
    unfold X11_led_L15_s X11_led_B59
    rw [I75_14, ob_some, hu, if_neg (by decide), R75_15, ob_some, rW h.2.2.1, ob_some, if_neg (by rw [N_le (by omega) (by omega)]; omega), R75_26, ob_some, M87 (by omega), ob_some, if_neg ne, show nI k + 1 = nI (k + 1) from N_add k 1, show nI q + 1 = nI (q + 1) from N_add q 1, ih (q + 1) (by omega), ih q (by omega)]
    simp only [ite_self]
  · intro f q hq
    unfold X11_led_L15_s X11_led_B65
    rw [I75_14, ob_some, hu, if_neg (by decide), R75_15, ob_some, rW h.2.2.1, ob_some, if_pos (by rw [N_le (by omega) (by omega)]; omega), P75_0, ob_some]
    rfl
/-- led, as the law asks it -/
theorem k_led (I : INV c w m) (x : Int32) : ∃ r v m' n', L_led 0 x 95 (enc c j w m n) = some (r, enc c j w m n') ∧ X11_led 75 x (enc c j w m n') = some (v, enc c j w m' n') ∧ X11_thrown 75 (enc c j w m' n') = some (r, enc c j w m' n') ∧ (r = 0 → aJ (enc c j w m' n') 95 0 = some (Int32.toInt64 v)) ∧ INV c w m' := by
  obtain ⟨B, ⟨u1, u2, -⟩ | ⟨u1, u2, V, K, hC, hM, -, -⟩⟩ := id I
  · refine ⟨1, 0, th0 m 1, n, ?_, ?_, ?_, fun z => absurd z (by decide), I.th 1⟩
    · unfold L_led
      rw [if_pos F0_is, show X10_led 0 x (enc c j w m n) = some (none, enc c j w m n) by
        show X10_led_L4_s (X10_led_L4 4999) 0 x 0 (enc c j w m n) = _
        unfold X10_led_L4_s X10_led_B59
        rw [F0_11, ob_some, u1, if_pos rfl], bd_eq]
    · unfold X11_led X11_led_B13
      rw [I75_14, ob_some, u2, if_pos rfl]
      show X11_led_L15_s (X11_led_L15 4999) 75 x 0 0 (enc c j w m n) = _
      unfold X11_led_L15_s X11_led_B65
      rw [I75_14, ob_some, u2, if_pos rfl, P75_0, ob_some]
      rfl
    · unfold X11_thrown
      rw [I75_0, ob_some]
      show some (th0 m 1 75 0, _) = _
      rw [th0, vup_at, upd_at]
  · have fin : ∀ (m1 : Nat → Nat → Int32) (z : Int32), mf m m1 → INV c w (th0 m1 z) := fun m1 z f1 => (I.q (cq_rfl c) ⟨f1.1, fun f h1 h2 _ => f1.2 f h1 h2⟩ (by rw [f1.2 11 (by omega) (by omega)]; exact I.1.2.2.2.1) id).th z
    have thr : ∀ (m1 : Nat → Nat → Int32) (z : Int32) (n1 : Nat → Nat → Int64), X11_thrown 75 (enc c j w (th0 m1 z) n1) = some (z, enc c j w (th0 m1 z) n1) := fun m1 z n1 => by
      unfold X11_thrown
      rw [I75_0, ob_some, show th0 m1 z 75 0 = z by rw [th0, vup_at, upd_at]]
    by_cases h0 : x < 0
    · obtain ⟨m1, e1, l1, r1⟩ := m_sailNow (c := c) (j := j) (w := w) (m := m) (n := n) hM
      refine ⟨1, 0, th0 m1 1, n, ?_, ?_, thr m1 1 n, fun z => absurd z (by decide), fin m1 1 l1.mf⟩
      · unfold L_led
        rw [if_pos F0_is, show X10_led 0 x (enc c j w m n) = some (none, enc c j w m n) by
          show X10_led_L4_s (X10_led_L4 4999) 0 x 0 (enc c j w m n) = _
          unfold X10_led_L4_s X10_led_B59
          rw [F0_11, ob_some, u1, if_neg (by decide), if_pos h0], bd_eq]
      · unfold X11_led X11_led_B13
        rw [I75_14, ob_some, u2, if_neg (by decide), cVv75, e1, ob_some]
        exact m_ledN (hM.mf l1.mf) (by rw [l1.2 14 (by omega)]; exact u2) r1.1 h0
    · obtain ⟨i, hi, rfl⟩ := n_pos h0
      by_cases e : ldF V K i = -2
      · obtain ⟨m1, e1, l1, r1⟩ := m_sailNow (c := c) (j := j) (w := w) (m := m) (n := n) hM
        have hl := m_ledL (c := c) (j := j) (w := w) (n := n) (hM.mf l1.mf) (by rw [l1.2 14 (by omega)]; exact u2) r1.1 hi
        rw [if_pos e, if_pos e] at hl
        refine ⟨1, 0, th0 m1 1, n, ?_, ?_, thr m1 1 n, fun z => absurd z (by decide), fin m1 1 l1.mf⟩
        · unfold L_led
          rw [if_pos F0_is, show X10_led 0 (nI i) (enc c j w m n) = some (none, enc c j w m n) by
            have := c_ledL (c := c) (j := j) (w := w) (m := m) (n := n) hC rfl u1 hi
            rw [if_pos e] at this; exact this, bd_eq]
        · unfold X11_led X11_led_B13
          rw [I75_14, ob_some, u2, if_neg (by decide), cVv75, e1, ob_some]
          exact hl
      · obtain ⟨m1, e1, l1, r1⟩ := m_sailNow (c := c) (j := j) (w := w) (m := m) (n := va_up n 95 (vp_updL (n 95) 0 (Int32.toInt64 (iI (ldF V K i))))) hM
        have hl := m_ledL (c := c) (j := j) (w := w) (n := va_up n 95 (vp_updL (n 95) 0 (Int32.toInt64 (iI (ldF V K i))))) (hM.mf l1.mf) (by rw [l1.2 14 (by omega)]; exact u2) r1.1 hi
        rw [if_neg e, if_neg e] at hl
        refine ⟨0, iI (ldF V K i), th0 m1 0, va_up n 95 (vp_updL (n 95) 0 (Int32.toInt64 (iI (ldF V K i)))), ?_, ?_, thr m1 0 _, fun _ => ?_, fin m1 0 l1.mf⟩
        · unfold L_led
          rw [if_pos F0_is, show X10_led 0 (nI i) (enc c j w m n) = some (some (iI (ldF V K i)), enc c j w m n) by
            have := c_ledL (c := c) (j := j) (w := w) (m := m) (n := n) hC rfl u1 hi
            rw [if_neg e] at this; exact this, bd_eq]
          show (sJ (enc c j w m n) 95 0 (Int32.toInt64 (iI (ldF V K i)))).bind _ = _
          rw [sJ_m (len := 1) rfl (by decide), if_neg (by decide), ob_some]
          rfl
        · unfold X11_led X11_led_B13
          rw [I75_14, ob_some, u2, if_neg (by decide), cVv75, e1, ob_some]
          exact hl
        · rw [aJ_m (len := 1) rfl (by decide), if_neg (by decide)]
          show some (va_up n 95 (vp_updL (n 95) 0 (Int32.toInt64 (iI (ldF V K i)))) 95 0) = _
          rw [vup_at, updL_at]
end
