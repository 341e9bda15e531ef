/-! the class: its face's helpers and loops -/
def rf (c : Nat → Nat → Int32) (x : Int32) : Nat → Nat → Int32 := va_up c 0 (upd (c 0) 14 x)
theorem rf_o {c : Nat → Nat → Int32} {x : Int32} {y : Nat} (h : y ≠ 0) : rf c x y = c y := by simp [rf, va_up, h]
theorem rf_f {c : Nat → Nat → Int32} {x : Int32} {f : Nat} (h : f ≠ 14) : rf c x 0 f = c 0 f := by simp [rf, va_up, upd, h]
theorem rf_t {c : Nat → Nat → Int32} {x : Int32} : rf c x 0 14 = x := by simp [rf, va_up, upd]
theorem CN.rf {c : Nat → Nat → Int32} {w : Nat → Nat} {v : Nat} {V K : Nat → Nat → Nat} (h : CN c w v V K) (x : Int32) : CN (rf c x) w v V K := by
  obtain ⟨hv, hw, g, hV, gk, hK, h2⟩ := h
  exact ⟨hv, hw, g, hV.fr hv (fun y h1 _ => rf_o (by omega)), gk, hK.fr (rf_o (by omega)) (rf_o (by omega)), by rw [rf_o (by omega)]; exact h2⟩
section
variable {c : Nat → Nat → Int32} {j : Nat → Nat → Int64} {w : Nat → Nat} {m : Nat → Nat → Int32} {n : Nat → Nat → Int64} {v : Nat} {V K : Nat → Nat → Nat} {E L : Nat → Nat} {S : Nat → Bool}
theorem F0_0 : gR (enc c j w m n) 0 10 0 = some 1 := gR_k rfl rfl
theorem F0_1 : gR (enc c j w m n) 0 10 1 = some 32 := gR_k rfl rfl
theorem F0_2 : gR (enc c j w m n) 0 10 2 = some 35 := gR_k rfl rfl
theorem F0_3 : gR (enc c j w m n) 0 10 3 = some 40 := gR_k rfl rfl
theorem F0_4 : gR (enc c j w m n) 0 10 4 = some 56 := gR_k rfl rfl
theorem F0_5 : gR (enc c j w m n) 0 10 5 = some 59 := gR_k rfl rfl
theorem F0_6 : gR (enc c j w m n) 0 10 6 = some 68 := gR_k rfl rfl
theorem F0_7 : gR (enc c j w m n) 0 10 7 = some 71 := gR_k rfl rfl
theorem F0_8 : gR (enc c j w m n) 0 10 8 = some 74 := gR_k rfl rfl
theorem F0_9 : gR (enc c j w m n) 0 10 9 = some (w 0) := gR_w rfl rfl
theorem F0_10 : gR (enc c j w m n) 0 10 10 = some (w 1) := gR_w rfl rfl
theorem F0_11 : gI (enc c j w m n) 0 10 11 = some (c 0 11) := gI_c rfl rfl (by decide)
theorem F0_12 : gI (enc c j w m n) 0 10 12 = some (c 0 12) := gI_c rfl rfl (by decide)
theorem F0_13 : gI (enc c j w m n) 0 10 13 = some (c 0 13) := gI_c rfl rfl (by decide)
theorem F0_14 : gI (enc c j w m n) 0 10 14 = some (c 0 14) := gI_c rfl rfl (by decide)
theorem F0_p11 {x : Int32} : pF (enc c j w m n) 0 10 11 (.int x) = some (enc (va_up c 0 (upd (c 0) 11 x)) j w m n) := pF_c rfl rfl (by decide)
theorem F0_p12 {x : Int32} : pF (enc c j w m n) 0 10 12 (.int x) = some (enc (va_up c 0 (upd (c 0) 12 x)) j w m n) := pF_c rfl rfl (by decide)
theorem F0_p13 {x : Int32} : pF (enc c j w m n) 0 10 13 (.int x) = some (enc (va_up c 0 (upd (c 0) 13 x)) j w m n) := pF_c rfl rfl (by decide)
theorem F0_p14 {x : Int32} : pF (enc c j w m n) 0 10 14 (.int x) = some (enc (va_up c 0 (upd (c 0) 14 x)) j w m n) := pF_c rfl rfl (by decide)
theorem F0_is : isC (enc c j w m n) 0 10 = true := isC_enc rfl
theorem cV0 {α β : Type} {o : Option (α × Hp)} {Q : α → Hp → Option β} : cV (enc c j w m n) 0 10 o Q = bd o Q := cV_eq F0_is
theorem cVv0 {β : Type} {o : Option Hp} {Q : Hp → Option β} : cVv (enc c j w m n) 0 10 o Q = o.bind Q := cVv_eq F0_is
theorem cV59 {α β : Type} {o : Option (α × Hp)} {Q : α → Hp → Option β} : cV (enc c j w m n) 59 6 o Q = bd o Q := cV_eq F59_is
theorem cVv59 {β : Type} {o : Option Hp} {Q : Hp → Option β} : cVv (enc c j w m n) 59 6 o Q = o.bind Q := cVv_eq F59_is
theorem c_refuse {x : Int32} : X10_isRefused 0 x (enc c j w m n) = some (if x = 0 then 0 else 1, enc (rf c x) j w m n) := by
  unfold X10_isRefused rf
  rw [F0_p14, ob_some]
  by_cases e : x = 0
  · rw [if_pos e, if_pos e, rZ_0]
  · rw [if_neg e, if_neg e, rZ_1]
theorem c_ref0 : X10_isRefused 0 0 (enc c j w m n) = some (0, enc (rf c 0) j w m n) := by rw [c_refuse, if_pos rfl]
theorem c_ref1 {x : Int32} (h : x ≠ 0) : X10_isRefused 0 x (enc c j w m n) = some (1, enc (rf c x) j w m n) := by rw [c_refuse, if_neg h]
theorem c_cW (h : CN c w v V K) (h0 : w 0 = v) : gI (enc c j w m n) (v + 5) 8 3 = some (nI (V 20 2)) := by
  rw [T_count (V_wats h.1), show c (v + 5) 3 = nI (V 20 2) from h.2.2.2.1.1 2 (by omega)]
theorem c_cB (h : CN c w v V K) (h0 : w 0 = v) : gI (enc c j w m n) (v + 1) 8 3 = some (nI (V 20 0)) := by
  rw [T_count (V_boys h.1), show c (v + 1) 3 = nI (V 20 0) from h.2.2.2.1.1 0 (by omega)]
theorem c_cO (h : CN c w v V K) (h0 : w 0 = v) : gI (enc c j w m n) (v + 3) 8 3 = some (nI (V 20 1)) := by
  rw [T_count (V_offs h.1), show c (v + 3) 3 = nI (V 20 1) from h.2.2.2.1.1 1 (by omega)]
theorem c_watchesWith (h : CN c w v V K) (h0 : w 0 = v) {a ca r wd q b : Nat} (hT : isT a r wd ca) (hr : 12 ≤ r) (hq : q < wd) {f : Nat → Nat} (hf : ∀ k, k < V 20 2 → c ca (k * wd + q) = nI (f k) ∧ f k < 100) (hb : b < 100) : X10_watchesWith 0 a (nI q) (nI b) (enc c j w m n) = some (nI (fm (fun k => f k == b) (V 20 2)), enc c j w m n) := by
  have g := h.2.2.1
  have g12 := g.1.2.2.1
  refine loop_up (z := fun _ _ _ _ _ _ _ => none) (s := X10_watchesWith_L6_s) (V 20 2) (fun i f' => f' 0 a (nI q) (nI b) (nI (fm (fun k => f k == b) i)) (nI i) (enc c j w m n) = some (nI (fm (fun k => f k == b) (V 20 2)), enc c j w m n)) ?_ ?_ 5000 0 (Nat.zero_le _) (by omega)
  · intro i f' hi ih
    obtain ⟨e1, e2⟩ := hf i hi
    unfold X10_watchesWith_L6_s X10_watchesWith_B41
    rw [F0_9, ob_some, h0, V_2 h.1, ob_some, c_cW h h0, ob_some, if_neg (by rw [N_le (by omega) (by omega)]; omega), cV_eq (T_is hT), T_cell hT (by omega) hq, bd_eq, e1, show nI i + 1 = nI (i + 1) from N_add i 1]
    rw [fm] at ih
    by_cases e : f i = b
    · rw [if_pos (by simp [e])] at ih
      rw [if_pos (by rw [e]), show (1 : Int32) <<< (nI i &&& 31) = nI (1 <<< i) from N_shl (a := 1) (by omega), N_or, pin_eq]; exact ih
    · rw [if_neg (by simp [e])] at ih
      rw [if_neg (by rw [N_inj (by omega) (by omega)]; exact e)]; exact ih
  · intro f'
    unfold X10_watchesWith_L6_s
    rw [F0_9, ob_some, h0, V_2 h.1, ob_some, c_cW h h0, ob_some, if_pos (by rw [N_le (by omega) (by omega)]; omega)]
theorem c_thiefL (h : CN c w v V K) (h0 : w 0 = v) : X10_thief_L20 5000 0 (-2) (-1) 0 (enc c j w m n) = some (iI (amx (oS V K) (V 20 0)), enc c j w m n) := by
  obtain ⟨hv, hw, g, hV, gk, hK, h2⟩ := id h
  have g5 := g.1.1
  have L := loop_up (z := fun _ _ _ _ _ => none) (s := X10_thief_L20_s) (V 20 0) (fun i f => ∀ y : Int32, (i = 0 → y = -1) → (i ≠ 0 → y = nI (oS V K (amx (oS V K) i).toNat)) → f 0 (iI (amx (oS V K) i)) y (nI i) (enc c j w m n) = some (iI (amx (oS V K) (V 20 0)), enc c j w m n)) ?_ ?_ 5000 0 (Nat.zero_le _) (by omega) (-1) (fun _ => rfl) (fun z => absurd rfl z)
  · exact L
  · intro i f hi ih y y0 y1
    have hr := amx_range (f := oS V K) i
    have o1 := oS_le g gk i
    have o2 := oS_le g gk (amx (oS V K) i).toNat
    have st : X6_stolenOf 59 35 (nI i) (enc c j w m n) = some (nI (oS V K i), enc c j w m n) := c_stolenOf hv hw now_K g gk (GE1 g) hV hK hi
    unfold X10_thief_L20_s X10_thief_B59
    rw [F0_9, ob_some, h0, V_0 hv, ob_some, c_cB h h0, ob_some, if_neg (by rw [N_le (by omega) (by omega)]; omega), F0_5, ob_some, F0_2, ob_some, cV59, st, bd_eq, show nI i + 1 = nI (i + 1) from N_add i 1]
    rw [amx] at ih
    by_cases e0 : i = 0
    · have ey := y0 e0
      have ea : amx (oS V K) i < 0 ∨ oS V K (amx (oS V K) i).toNat < oS V K i := Or.inl (by rcases hr with q | q <;> omega)
      rw [if_pos ea, Int.toNat_natCast] at ih
      rw [ey, if_neg (by rw [nI_iI, show (-1 : Int32) = iI (-1) from rfl, Z_le (by omega) (by omega) (by omega) (by omega)]; omega), nI_iI i]
      exact ih _ (fun z => absurd z (by omega)) (fun _ => rfl)
    · have ey := y1 e0
      subst ey
      have n0 : ¬ amx (oS V K) i < 0 := by rcases hr with q | q <;> omega
      by_cases e : oS V K (amx (oS V K) i).toNat < oS V K i
      · rw [if_pos (Or.inr e), Int.toNat_natCast] at ih
        rw [if_neg (by rw [N_le (by omega) (by omega)]; omega), nI_iI i]
        exact ih _ (fun z => absurd z (by omega)) (fun _ => rfl)
      · rw [if_neg (fun z => z.elim n0 e)] at ih
        rw [if_pos (by rw [N_le (by omega) (by omega)]; omega)]
        exact ih _ (fun z => absurd z (by omega)) (fun _ => rfl)
  · intro f y y0 y1
    unfold X10_thief_L20_s
    rw [F0_9, ob_some, h0, V_0 hv, ob_some, c_cB h h0, ob_some, if_pos (by rw [N_le (by omega) (by omega)]; omega)]
theorem c_lostL (h : CN c w v V K) (h0 : w 0 = v) : X10_lostWatch_L17 5000 0 0 0 (enc c j w m n) = some (iI (lwF (lNw V K) (V 20 2)), enc c j w m n) := by
  obtain ⟨hv, hw, g, hV, gk, hK, h2⟩ := id h
  have g12 := g.1.2.2.1
  refine loop_up (z := fun _ _ _ _ => none) (s := X10_lostWatch_L17_s) (V 20 2) (fun i f => (∀ i', i' < i → decide (240 ≤ sumN (lNw V K) (i' + 1)) = false) → f 0 (nI (sumN (lNw V K) i)) (nI i) (enc c j w m n) = some (iI (lwF (lNw V K) (V 20 2)), enc c j w m n)) ?_ ?_ 5000 0 (Nat.zero_le _) (by omega) (fun i h => absurd h (Nat.not_lt_zero _))
  · intro i f hi ih hn
    have hb := sumN_b (f := lNw V K) (q := 240) (N := i + 1) (fun k hk => lNw_le g gk k (by omega))
    have st : X6_stolenIn 59 35 (nI i) (enc c j w m n) = some (nI (lNw V K i), enc c j w m n) := c_stolen hv hw now_K g gk (GE1 g) hV hK hi
    unfold X10_lostWatch_L17_s
    rw [F0_9, ob_some, h0, V_2 hv, ob_some, c_cW h h0, ob_some, if_neg (by rw [N_le (by omega) (by omega)]; omega), F0_5, ob_some, F0_2, ob_some, cV59, st, bd_eq, pin_eq, N_add, show sumN (lNw V K) i + lNw V K i = sumN (lNw V K) (i + 1) from rfl, show (240 : Int32) = nI 240 from rfl, show nI i + 1 = nI (i + 1) from N_add i 1]
    by_cases e : 240 ≤ sumN (lNw V K) (i + 1)
    · rw [if_neg (by rw [N_lt (by omega) (by omega)]; omega), nI_iI, show lwF (lNw V K) (V 20 2) = (i : Int) from fiF_at (p := fun k => decide (240 ≤ sumN (lNw V K) (k + 1))) (by simpa using e) hn hi]
    · rw [if_pos (by rw [N_lt (by omega) (by omega)]; omega)]
      refine ih fun i' hi' => ?_
      rcases Nat.lt_or_eq_of_le (Nat.le_of_lt_succ hi') with h1 | h1
      · exact hn i' h1
      · subst h1; simpa using e
  · intro f hn
    unfold X10_lostWatch_L17_s
    rw [F0_9, ob_some, h0, V_2 hv, ob_some, c_cW h h0, ob_some, if_pos (by rw [N_le (by omega) (by omega)]; omega), show lwF (lNw V K) (V 20 2) = -2 from fiF_none hn]
    rfl
theorem apt0 : aptS V K L S 0 = 0 := by
  unfold aptS apt pE pTE pN pTN
  rw [Int.sub_self, Int.sub_self]; rfl
theorem c_worstL (h : CN c w v V K) (h0 : w 0 = v) (hL : ∀ k, k < V 20 2 → c 62 k = nI (lNw V K k)) : ∃ c', X10_worst_L30 5000 0 0 0 0 (enc c j w m n) = some (nI (wst (aptS V K (lNw V K) allS) (V 20 2 + 1)), enc c' j w m n) ∧ fr c c' := by
  obtain ⟨hv, hw, g, hV, gk, hK, h2⟩ := id h
  have g12 := g.1.2.2.1
  have L := loop_up (z := fun _ _ _ _ _ => none) (s := X10_worst_L30_s) (V 20 2 + 1) (fun i f => ∀ c0 : Nat → Nat → Int32, (∀ y, y ≠ 60 → c0 y = c y) → (i - 1 = 0 ∨ RSh c0 (pE V K (lNw V K) (i - 1)) (pN V K (lNw V K) (i - 1)) (pTE V K (i - 1)) (pTN V K (lNw V K) allS (i - 1))) → ∃ c', f 0 (nI (wst (aptS V K (lNw V K) allS) i)) (iI (aptS V K (lNw V K) allS (wst (aptS V K (lNw V K) allS) i))) (nI i) (enc c0 j w m n) = some (nI (wst (aptS V K (lNw V K) allS) (V 20 2 + 1)), enc c' j w m n) ∧ (∀ y, y ≠ 60 → c' y = c y)) ?_ ?_ 5000 0 (Nat.zero_le _) (by omega) c (fun _ _ => rfl) (Or.inl rfl)
  · obtain ⟨c', e', f'⟩ := L
    rw [show wst (aptS V K (lNw V K) allS) 0 = 0 from rfl, apt0] at e'
    exact ⟨c', e', fun y hy => f' y (by omega)⟩
  · intro i f hi ih c0 f0 hs
    have fk : ∀ c1 : Nat → Nat → Int32, (∀ y, y ≠ 60 → c1 y = c y) → CN c1 w v V K ∧ ∀ k, k < V 20 2 → c1 62 k = nI (lNw V K k) := fun c1 f1 => ⟨h.fr fun y hy => f1 y (by omega), fun k hk => by rw [f1 62 (by omega)]; exact hL k hk⟩
    obtain ⟨h1, hL1⟩ := fk c0 f0
    obtain ⟨-, -, -, hV0, -, hK0, h20⟩ := id h1
    obtain ⟨c1, e1, f1, s1⟩ := c_sail (c := c0) (j := j) (w := w) (m := m) (n := n) hv hw now_K g gk hV0 hK0 (RS_all g h20) hL1 (a := i - 1) (b := i) (by omega) (by omega) hs
    have f1' : ∀ y, y ≠ 60 → c1 y = c y := fun y hy => by rw [f1 y hy]; exact f0 y hy
    obtain ⟨b1, b2⟩ := sq_lt (K := K) g (lNw_le g gk) (b := i) (by omega)
    obtain ⟨b3, b4⟩ := th_lt (K := K) (S := allS) g (lNw_le g gk) (b := i) (by omega)
    have hle := wst_lt (f := aptS V K (lNw V K) allS) i
    have a1 := aptS_b (K := K) (S := allS) g (lNw_le g gk) (b := i) (by omega)
    have a2 := aptS_b (K := K) (S := allS) g (lNw_le g gk) (b := wst (aptS V K (lNw V K) allS) i) (by omega)
    have ap : X7_apart 60 (enc c1 j w m n) = some (iI (aptS V K (lNw V K) allS i), enc c1 j w m n) := c_apart s1 b1 b2 b3 b4
    have ih := ih c1 f1' (Or.inr s1)
    unfold X10_worst_L30_s X10_worst_B86
    rw [F0_9, ob_some, h0, V_2 hv, ob_some, c_cW h1 h0, ob_some, if_neg (by rw [N_lt (by omega) (by omega)]; omega), F0_5, ob_some, F0_2, ob_some, max1 i (by omega), bd_eq, cVv59, e1, ob_some, F0_5, ob_some, F59_0, ob_some, cV_eq F60_is, ap, bd_eq, show nI i + 1 = nI (i + 1) from N_add i 1]
    rw [wst] at ih
    by_cases e : aptS V K (lNw V K) allS (wst (aptS V K (lNw V K) allS) i) < aptS V K (lNw V K) allS i
    · rw [if_pos e] at ih
      rw [if_neg (by rw [Z_le (by omega) (by omega) (by omega) (by omega)]; omega)]; exact ih
    · rw [if_neg e] at ih
      rw [if_pos (by rw [Z_le (by omega) (by omega) (by omega) (by omega)]; omega)]; exact ih
  · intro f c0 f0 hs
    refine ⟨c0, ?_, f0⟩
    have h1 : CN c0 w v V K := h.fr fun y hy => f0 y (by omega)
    unfold X10_worst_L30_s
    rw [F0_9, ob_some, h0, V_2 hv, ob_some, c_cW h1 h0, ob_some, if_pos (by rw [N_lt (by omega) (by omega)]; omega)]
theorem c_changeL (h : CN c w v V K) (h0 : w 0 = v) : ∃ c', X10_change_L15 5000 0 0 (enc c j w m n) = some (iI (chO (chB V K) (V 20 2)), enc c' j w m n) ∧ fr c c' := by
  obtain ⟨hv, hw, g, hV, gk, hK, h2⟩ := id h
  have g12 := g.1.2.2.1
  have hN := sets_lt g
  refine loop_up (z := fun _ _ _ => none) (s := X10_change_L15_s) (V 20 2) (fun k f => (∀ i, i < k → chI (chB V K) i 4 = -2) → ∀ c1, fr c c1 → ∃ c', f 0 (nI k) (enc c1 j w m n) = some (iI (chO (chB V K) (V 20 2)), enc c' j w m n) ∧ fr c c') ?_ ?_ 5000 0 (Nat.zero_le _) (by omega) (fun i h => absurd h (Nat.not_lt_zero _)) c (fr.rf c)
  · intro k f hk ih hn c1 f1
    unfold X10_change_L15_s
    rw [F0_9, ob_some, h0, V_2 hv, ob_some, c_cW (h.fr f1) h0, ob_some, if_neg (by rw [N_le (by omega) (by omega)]; omega)]
    refine loop_up (z := fun _ _ _ _ => none) (s := X10_change_L31_s f) 4 (fun q f' => (∀ i, i < q → chB V K k i = false) → ∀ c1, fr c c1 → ∃ c', f' 0 (nI k) (nI q) (enc c1 j w m n) = some (iI (chO (chB V K) (V 20 2)), enc c' j w m n) ∧ fr c c') ?_ ?_ 5000 0 (Nat.zero_le _) (by omega) (fun i h => absurd h (Nat.not_lt_zero _)) c1 f1
    · intro q f' hq ih' hn' c2 f2
      obtain ⟨c3, e3, f3⟩ := c_isSafeBy (c := c2) (j := j) (w := w) (m := m) (n := n) (h.fr f2) hk hq
      unfold X10_change_L31_s
      rw [show (4 : Int32) = nI 4 from rfl, if_neg (by rw [N_le (by omega) (by omega)]; omega), F0_7, ob_some, F0_2, ob_some, cV_eq F71_is, e3, bd_eq, show nI q + 1 = nI (q + 1) from N_add q 1]
      by_cases e : perS V (KC K k q) (2 ^ V 20 5) = 0
      · have eb : chB V K k q = true := by unfold chB; simp [e]
        have ei := chI_at eb hn' hq
        rw [if_pos e, if_neg (by decide)]
        refine ⟨c3, ?_, f2.tr f3⟩
        rw [chO_at (i := k) (by rw [ei]; omega) hn hk, ei, nI_iI, nI_iI, show (10 : Int32) = iI 10 from rfl, Z_mul, Z_add]
      · have eb : chB V K k q = false := by unfold chB; simp [e]
        rw [if_neg e, if_pos rfl]
        refine ih' (fun i hi => ?_) c3 (f2.tr f3)
        rcases Nat.lt_or_eq_of_le (Nat.le_of_lt_succ hi) with h1 | h1
        · exact hn' i h1
        · subst h1; exact eb
    · intro f' hn' c2 f2
      unfold X10_change_L31_s
      rw [if_pos (by decide), show nI k + 1 = nI (k + 1) from N_add k 1]
      refine ih (fun i hi => ?_) c2 f2
      rcases Nat.lt_or_eq_of_le (Nat.le_of_lt_succ hi) with h1 | h1
      · exact hn i h1
      · subst h1; exact chI_none hn'
  · intro f hn c1 f1
    refine ⟨c1, ?_, f1⟩
    unfold X10_change_L15_s
    rw [F0_9, ob_some, h0, V_2 hv, ob_some, c_cW (h.fr f1) h0, ob_some, if_pos (by rw [N_le (by omega) (by omega)]; omega), chO_none hn]
    rfl
theorem RK_putB {c : Nat → Nat → Int32} {kp : Nat} (hK : RK c kp V K E) {k b : Nat} : RK (va_up c (kp + 2) (upd (c (kp + 2)) (k * 3) (nI b))) kp V (KB K k b) E := by
  refine ⟨fun i hi => ?_, fun i hi => ?_⟩
  · rw [vup_at]
    obtain ⟨q1, q2, q3⟩ := hK.1 i hi
    refine ⟨?_, ?_, ?_⟩
    · unfold KB
      by_cases e : i = k
      · subst e; rw [upd_at, if_pos ⟨rfl, rfl⟩]
      · rw [upd_ne (by omega), if_neg (fun z => e z.2)]; exact q1
    · rw [upd_ne (by omega)]; unfold KB; rw [if_neg (by omega)]; exact q2
    · rw [upd_ne (by omega)]; unfold KB; rw [if_neg (by omega)]; exact q3
  · rw [vup_ne _ _ (by omega)]; exact hK.2 i hi
theorem c_reliefL (h : CN c w v V K) (h0 : w 0 = v) (hT : RK c 63 V K (V 1)) {k : Nat} (hk : k < V 20 2) : ∃ c', X10_relief_L42 5000 0 (nI k) 63 (-1) 0 0 (enc c j w m n) = some (nI (amn (fun b => stl V (KB K k b) (V 1) k) (V 20 0)), enc c' j w m n) ∧ fr c c' := by
  obtain ⟨hv, hw, g, hV, gk, hK, h2⟩ := id h
  have g5 := g.1.1
  have g12 := g.1.2.2.1
  have hb0 := (gk k hk).1
  have hst : ∀ b, b < V 20 0 → stl V (KB K k b) (V 1) k ≤ 160 := fun b hb => stl_le g (GKB gk hb) (GE1 g) hk
  have L := loop_up (z := fun _ _ _ _ _ _ _ => none) (s := X10_relief_L42_s) (V 20 0) (fun i f => ∀ c1 K1, fr c c1 → RK c1 63 V K1 (V 1) → GK V K1 → (∀ b, KB K1 k b = KB K k b) → ∀ (x y : Int32), (i = 0 → x = -1) → (i ≠ 0 → x = nI (amn (fun b => stl V (KB K k b) (V 1) k) i) ∧ y = nI (stl V (KB K k (amn (fun b => stl V (KB K k b) (V 1) k) i)) (V 1) k)) → ∃ c', f 0 (nI k) 63 x y (nI i) (enc c1 j w m n) = some (nI (amn (fun b => stl V (KB K k b) (V 1) k) (V 20 0)), enc c' j w m n) ∧ fr c c') ?_ ?_ 5000 0 (Nat.zero_le _) (by omega) c K (fr.rf c) hT gk (fun _ => rfl) (-1) 0 (fun _ => rfl) (fun z => absurd rfl z)
  · exact L
  · intro i f hi ih c1 K1 f1 k1 gk1 hK1 x y h0' h1'
    have hV1 : RV c1 v V := hV.fr hv fun y _ _ => f1 y (by omega)
    have k2 := RK_putB (kp := 63) k1 (k := k) (b := i)
    generalize hx : upd (c1 65) (k * 3) (nI i) = xx at k2
    have hV2 : RV (va_up c1 65 xx) v V := hV1.fr hv fun y _ _ => vup_ne _ _ (by omega)
    have st : X6_stolenIn 59 63 (nI k) (enc (va_up c1 65 xx) j w m n) = some (nI (stl V (KB K1 k i) (V 1) k), enc (va_up c1 65 xx) j w m n) := c_stolen hv hw trial_K g (GKB gk1 hi) (GE1 g) hV2 k2 hk
    have f2 : fr c (va_up c1 65 xx) := f1.tr fun y hy => vup_ne _ _ (by omega)
    have hKK : ∀ b, KB (KB K1 k i) k b = KB K k b := fun b => by
      rw [← hK1 b]; funext r s; unfold KB; split <;> simp_all
    have hrec := ih (va_up c1 65 xx) (KB K1 k i) f2 k2 (GKB gk1 hi) hKK
    have hs1 := hst i hi
    unfold X10_relief_L42_s X10_relief_B91 X10_relief_B98
    rw [F0_9, ob_some, h0, V_0 hv, ob_some, c_cB (h.fr f1) h0, ob_some, if_neg (by rw [N_le (by omega) (by omega)]; omega), K_0 trial_K, ob_some, cVv_eq (T_is (K_wats trial_K)), T_put0 (K_wats trial_K) (by omega) (by omega), ob_some, hx, F0_5, ob_some, cV59, st, bd_eq, hK1, show nI i + 1 = nI (i + 1) from N_add i 1]
    by_cases e0 : i = 0
    · have ex := h0' e0
      subst ex
      have ea : amn (fun b => stl V (KB K k b) (V 1) k) (i + 1) = i := by rw [amn, if_pos (Or.inl e0)]
      rw [if_pos rfl]
      exact hrec _ _ (fun z => absurd z (by omega)) (fun _ => by rw [ea]; exact ⟨rfl, rfl⟩)
    · obtain ⟨rfl, rfl⟩ := h1' e0
      have hle := amn_lt (f := fun b => stl V (KB K k b) (V 1) k) i
      have hlt : amn (fun b => stl V (KB K k b) (V 1) k) i < V 20 0 := by omega
      have hs2 := hst _ hlt
      rw [if_neg (by rw [nI_iI, show (-1 : Int32) = iI (-1) from rfl, Z_inj (by omega) (by omega) (by omega) (by omega)]; omega)]
      by_cases e : stl V (KB K k i) (V 1) k < stl V (KB K k (amn (fun b => stl V (KB K k b) (V 1) k) i)) (V 1) k
      · have ea : amn (fun b => stl V (KB K k b) (V 1) k) (i + 1) = i := by rw [amn, if_pos (Or.inr e)]
        rw [if_neg (by rw [N_le (by omega) (by omega)]; omega)]
        exact hrec _ _ (fun z => absurd z (by omega)) (fun _ => by rw [ea]; exact ⟨rfl, rfl⟩)
      · have ea : amn (fun b => stl V (KB K k b) (V 1) k) (i + 1) = amn (fun b => stl V (KB K k b) (V 1) k) i := by rw [amn, if_neg (fun z => z.elim e0 e)]
        rw [if_pos (by rw [N_le (by omega) (by omega)]; omega)]
        exact hrec _ _ (fun z => absurd z (by omega)) (fun _ => by rw [ea]; exact ⟨rfl, rfl⟩)
  · intro f c1 K1 f1 k1 gk1 hK1 x y h0' h1'
    refine ⟨c1, ?_, f1⟩
    unfold X10_relief_L42_s
    rw [F0_9, ob_some, h0, V_0 hv, ob_some, c_cB (h.fr f1) h0, ob_some, if_pos (by rw [N_le (by omega) (by omega)]; omega), (h1' (by omega)).1]
theorem c_wrecksL (h : CN c w v V K) (h0 : w 0 = v) {s : Nat} (hs : s < 65537) (hc : c 59 4 = nI s) {q : Nat} (hq : q ≤ 20) : ∃ c', X10_wrecks_L30 5000 0 (nI q) 0 0 (enc c j w m n) = some (nI (wrk V K s q), enc c' j w m n) ∧ fr c c' := by
  obtain ⟨hv, hw, g, hV, gk, hK, h2⟩ := id h
  refine loop_up (z := fun _ _ _ _ _ => none) (s := X10_wrecks_L30_s) q (fun i f => ∀ c1, fr c c1 → c1 59 4 = nI (wsd V K s i) → ∃ c', f 0 (nI q) (nI (wrk V K s i)) (nI i) (enc c1 j w m n) = some (nI (wrk V K s q), enc c' j w m n) ∧ fr c c') ?_ ?_ 5000 0 (Nat.zero_le _) (by omega) c (fr.rf c) hc
  · intro i f hi ih c1 f1 s1
    obtain ⟨-, -, -, hV1, -, hK1, h21⟩ := h.fr f1
    obtain ⟨c2, e2, f2, s2, l2⟩ := c_drawIdle (c := c1) (j := j) (w := w) (m := m) (n := n) hv hw now_K g gk (GE1 g) hV1 hK1 (wsd_lt hs i) s1
    have fr2 : fr c c2 := f1.tr fun y hy => f2 y (by omega) (by omega)
    obtain ⟨-, -, -, hV2, -, hK2, h22⟩ := h.fr fr2
    obtain ⟨c3, e3, f3⟩ := c_strike (c := c2) (j := j) (w := w) (m := m) (n := n) (S := allS) hv hw now_K g gk hV2 hK2 (RS_all g h22) l2 (drL_b g gk _) false
    have ih := ih c3 (fr2.tr fun y hy => f3 y (by omega)) (by rw [f3 59 (by omega)]; exact s2)
    unfold X10_wrecks_L30_s X10_wrecks_B67
    rw [if_neg (by rw [N_le (by omega) (by omega)]; omega), F0_5, ob_some, F0_2, ob_some, cVv59, e2, ob_some, F0_5, ob_some, F0_2, ob_some, cV59, show X6_firstStrike 59 35 0 (enc c2 j w m n) = _ from e3, bd_eq, show nI i + 1 = nI (i + 1) from N_add i 1]
    have hp : wrk V K s (i + 1) = wrk V K s i + (if stk V K (drL V K (V 1) (wsd V K s i)) allS false = -2 then 0 else 1) := rfl
    rw [hp] at ih
    by_cases e : stk V K (drL V K (V 1) (wsd V K s i)) allS false = -2
    · rw [if_pos e] at ih
      rw [if_pos ((stk_eq2 g).mpr e)]; exact ih
    · rw [if_neg e] at ih
      rw [if_neg (fun z => e ((stk_eq2 g).mp z)), show nI (wrk V K s i) + 1 = nI (wrk V K s i + 1) from N_add _ 1]; exact ih
  · intro f c1 f1 s1
    refine ⟨c1, ?_, f1⟩
    unfold X10_wrecks_L30_s
    rw [if_pos (by rw [N_le (by omega) (by omega)]; omega)]
end
