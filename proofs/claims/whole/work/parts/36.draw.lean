/-! idle boys by draws -/
def nxt (s : Nat) : Nat := (75 * s + 74) % 65537
/-- glass by glass: what is turned early, and the seed -/
def drF (idle : Nat) (er : Nat → Nat) (s : Nat) : Nat → Nat × Nat
  | 0 => (0, s)
  | g + 1 => if er g = 0 then drF idle er s g else if nxt (drF idle er s g).2 % 100 < idle then ((drF idle er s g).1, nxt (drF idle er s g).2) else ((drF idle er s g).1 + er g, nxt (drF idle er s g).2)
def erG (V K : Nat → Nat → Nat) (E : Nat → Nat) (k g : Nat) : Nat := earOf V K E k ((lkOf V K k).testBit g)
def drS (V K : Nat → Nat → Nat) (E : Nat → Nat) (s : Nat) : Nat → Nat
  | 0 => s
  | k + 1 => (drF (V 20 10) (erG V K E k) (drS V K E s k) 8).2
def drL (V K : Nat → Nat → Nat) (E : Nat → Nat) (s k : Nat) : Nat := (drF (V 20 10) (erG V K E k) (drS V K E s k) 8).1
theorem nxt_lt (s : Nat) : nxt s < 65537 := Nat.mod_lt _ (by decide)
theorem drF_lt {idle : Nat} {er : Nat → Nat} {s : Nat} (hs : s < 65537) : ∀ g, (drF idle er s g).2 < 65537
  | 0 => hs
  | g + 1 => by
    unfold drF
    split
    · exact drF_lt hs g
    · split <;> exact nxt_lt _
theorem drF_le {idle : Nat} {er : Nat → Nat} {s : Nat} (he : ∀ g, er g ≤ 20) : ∀ g, (drF idle er s g).1 ≤ 20 * g
  | 0 => Nat.le_refl _
  | g + 1 => by
    have := drF_le (idle := idle) (s := s) he g
    have h2 := he g
    unfold drF
    split
    · omega
    · split <;> simp only <;> omega
section
variable {c : Nat → Nat → Int32} {j : Nat → Nat → Int64} {w : Nat → Nat} {m : Nat → Nat → Int32} {n : Nat → Nat → Int64} {v kp : Nat} {V K : Nat → Nat → Nat} {E L : Nat → Nat} {S : Nat → Bool}
theorem drS_lt {s : Nat} (hs : s < 65537) : ∀ k, drS V K E s k < 65537
  | 0 => hs
  | k + 1 => drF_lt (drS_lt hs k) 8
theorem erG_le (g : GV V) (gk : GK V K) (ge : GE V E) {k : Nat} (hk : k < V 20 2) (i : Nat) : erG V K E k i ≤ 20 := Nat.le_trans ear_le (ge _ (gk k hk).1)
theorem drL_le (g : GV V) (gk : GK V K) (ge : GE V E) {k s : Nat} (hk : k < V 20 2) : drL V K E s k ≤ 160 := drF_le (erG_le g gk ge hk) 8
theorem F59_4 : gI (enc c j w m n) 59 6 4 = some (c 59 4) := gI_c rfl rfl (by decide)
theorem F59_p4 {x : Int32} : pF (enc c j w m n) 59 6 4 (.int x) = some (enc (va_up c 59 (upd (c 59) 4 x)) j w m n) := pF_c rfl rfl (by decide)
theorem c_isIdle (hv : isV v) (hw : w 3 = v) (g : GV V) (hV : RV c v V) {s : Nat} (hs : s < 65537) (hc : c 59 4 = nI s) : X6_isIdle 59 (enc c j w m n) = some (if nxt s % 100 < V 20 10 then 1 else 0, enc (va_up c 59 (upd (c 59) 4 (nI (nxt s)))) j w m n) := by
  have gi := g.2.1.2.2.2
  unfold X6_isIdle
  have e1 : 75 * nI s + 74 = nI (75 * s + 74) := by rw [show (75 : Int32) = nI 75 from rfl, show (74 : Int32) = nI 74 from rfl, N_mul, N_add]
  have hV1 : RV (va_up c 59 (upd (c 59) 4 (nI (nxt s)))) v V := hV.fr hv fun y _ _ => by simp only [va_up]; rw [if_neg (by omega)]
  rw [F59_4, ob_some, hc, e1, show (65537 : Int32) = nI 65537 from rfl, N_mod (by omega) (by omega), F59_p4, ob_some, F59_4, ob_some, F59_3, hw, ob_some, V_i hv (by omega) (by omega), ob_some]
  have e2 : va_up c 59 (upd (c 59) 4 (nI (nxt s))) 59 4 = nI (nxt s) := by simp [va_up, upd]
  have h3 := nxt_lt s
  have e4 : va_up c 59 (upd (c 59) 4 (nI (nxt s))) v 11 = nI (V 20 10) := hV1.2.1 3 (by omega)
  unfold nxt at e2 e4 h3 ⊢
  rw [e2, e4, show (100 : Int32) = nI 100 from rfl, N_mod (by omega) (by omega)]
  have h5 := Nat.mod_lt ((75 * s + 74) % 65537) (show 100 > 0 by omega)
  by_cases e : (75 * s + 74) % 65537 % 100 < V 20 10
  · rw [if_neg (by rw [N_le (by omega) (by omega)]; omega), if_pos e, rZ_1]
  · rw [if_pos (by rw [N_le (by omega) (by omega)]; omega), if_neg e, rZ_0]
theorem c_drawn (hv : isV v) (hw : w 3 = v) (hk : isK kp) (g : GV V) (gk : GK V K) (ge : GE V E) (hV : RV c v V) (hK : RK c kp V K E) {k s : Nat} (hlt : k < V 20 2) (hs : s < 65537) (hc : c 59 4 = nI s) : ∃ c', X6_drawnIn 59 kp (nI k) (enc c j w m n) = some (nI (drF (V 20 10) (erG V K E k) s 8).1, enc c' j w m n) ∧ (∀ y, y ≠ 59 → c' y = c y) ∧ c' 59 4 = nI (drF (V 20 10) (erG V K E k) s 8).2 := by
  unfold X6_drawnIn
  rw [cV_eq F59_is, c_looks hv hw hk g gk hV hK hlt, bd_eq, cV_eq F59_is, c_early1 hv hw hk g gk ge hV hK hlt, bd_eq, cV_eq F59_is, c_early0 hv hw hk g gk ge hV hK hlt, bd_eq]
  have hlk := lkOf_lt (K := K) g hlt
  refine loop_up (z := fun _ _ _ _ _ _ _ => none) (s := X6_drawnIn_L31_s) 8 (fun i f => ∀ c1 : Nat → Nat → Int32, (∀ y, y ≠ 59 → c1 y = c y) → c1 59 4 = nI (drF (V 20 10) (erG V K E k) s i).2 → ∃ c', f 59 (nI (lkOf V K k)) (nI (earOf V K E k true)) (nI (earOf V K E k false)) (nI (drF (V 20 10) (erG V K E k) s i).1) (nI i) (enc c1 j w m n) = some (nI (drF (V 20 10) (erG V K E k) s 8).1, enc c' j w m n) ∧ (∀ y, y ≠ 59 → c' y = c y) ∧ c' 59 4 = nI (drF (V 20 10) (erG V K E k) s 8).2) ?_ ?_ 5000 0 (Nat.zero_le _) (by omega) c (fun _ _ => rfl) hc
  · intro i f hi ih c1 f1 h1
    have hV1 : RV c1 v V := hV.fr hv fun y _ _ => f1 y (by omega)
    have hle := erG_le g gk ge hlt i
    have hsd := drF_lt (idle := V 20 10) (er := erG V K E k) hs i
    have B : ∃ c', X6_drawnIn_B54 f 59 (nI (lkOf V K k)) (nI (earOf V K E k true)) (nI (earOf V K E k false)) (nI (drF (V 20 10) (erG V K E k) s i).1) (nI i) (nI (erG V K E k i)) (enc c1 j w m n) = some (nI (drF (V 20 10) (erG V K E k) s 8).1, enc c' j w m n) ∧ (∀ y, y ≠ 59 → c' y = c y) ∧ c' 59 4 = nI (drF (V 20 10) (erG V K E k) s 8).2 := by
      unfold X6_drawnIn_B54 X6_drawnIn_B75
      have ez : nI (erG V K E k i) ≤ 0 ↔ erG V K E k i = 0 := by
        rw [show (0 : Int32) = nI 0 from rfl, N_le (by omega) (by omega)]; omega
      by_cases e : erG V K E k i = 0
      · rw [if_pos (ez.mpr e), show nI i + 1 = nI (i + 1) from N_add i 1]
        have ed : drF (V 20 10) (erG V K E k) s (i + 1) = drF (V 20 10) (erG V K E k) s i := by rw [drF, if_pos e]
        have := ih c1 f1 (by rw [ed]; exact h1)
        rw [ed] at this
        exact this
      · rw [if_neg (fun z => e (ez.mp z)), cV_eq F59_is, c_isIdle hv hw g hV1 hsd h1, bd_eq]
        by_cases e2 : nxt (drF (V 20 10) (erG V K E k) s i).2 % 100 < V 20 10
        · have ed : drF (V 20 10) (erG V K E k) s (i + 1) = ((drF (V 20 10) (erG V K E k) s i).1, nxt (drF (V 20 10) (erG V K E k) s i).2) := by rw [drF, if_neg e, if_pos e2]
          rw [if_pos e2, if_neg (by decide), show nI i + 1 = nI (i + 1) from N_add i 1]
          have := ih (va_up c1 59 (upd (c1 59) 4 (nI (nxt (drF (V 20 10) (erG V K E k) s i).2)))) (fun y hy => by simp only [va_up, if_neg hy]; exact f1 y hy) (by rw [ed]; simp [va_up, upd])
          rw [ed] at this
          exact this
        · have ed : drF (V 20 10) (erG V K E k) s (i + 1) = ((drF (V 20 10) (erG V K E k) s i).1 + erG V K E k i, nxt (drF (V 20 10) (erG V K E k) s i).2) := by rw [drF, if_neg e, if_neg e2]
          rw [if_neg e2, if_pos rfl, pin_eq, N_add, show nI i + 1 = nI (i + 1) from N_add i 1]
          have := ih (va_up c1 59 (upd (c1 59) 4 (nI (nxt (drF (V 20 10) (erG V K E k) s i).2)))) (fun y hy => by simp only [va_up, if_neg hy]; exact f1 y hy) (by rw [ed]; simp [va_up, upd])
          rw [ed] at this
          exact this
    unfold X6_drawnIn_L31_s
    rw [if_neg (by rw [show (8 : Int32) = nI 8 from rfl, N_le (by omega) (by omega)]; omega), N_bit (by omega) (by omega)]
    unfold erG at B
    cases e : (lkOf V K k).testBit i with
    | false =>
      rw [if_pos (show (if false = true then (1 : Int32) else 0) = 0 by decide)]
      rw [e] at B; exact B
    | true =>
      rw [if_neg (show ¬ (if true = true then (1 : Int32) else 0) = 0 by decide)]
      rw [e] at B; exact B
  · intro f c1 f1 h1
    refine ⟨c1, ?_, f1, h1⟩
    unfold X6_drawnIn_L31_s
    rw [if_pos (by decide)]
theorem c_drawIdle (hv : isV v) (hw : w 3 = v) (hk : isK kp) (g : GV V) (gk : GK V K) (ge : GE V E) (hV : RV c v V) (hK : RK c kp V K E) {s : Nat} (hs : s < 65537) (hc : c 59 4 = nI s) : ∃ c', X6_drawIdle 59 kp (enc c j w m n) = some (enc c' j w m n) ∧ (∀ y, y ≠ 59 → y ≠ 62 → c' y = c y) ∧ c' 59 4 = nI (drS V K E s (V 20 2)) ∧ ∀ k, k < V 20 2 → c' 62 k = nI (drL V K E s k) := by
  have g12 := g.1.2.2.1
  refine loop_up (z := fun _ _ _ _ => none) (s := X6_drawIdle_L2_s) (V 20 2) (fun i f => ∀ c0 : Nat → Nat → Int32, (∀ y, y ≠ 59 → y ≠ 62 → c0 y = c y) → c0 59 4 = nI (drS V K E s i) → (∀ k, k < i → c0 62 k = nI (drL V K E s k)) → ∃ c', f 59 kp (nI i) (enc c0 j w m n) = some (enc c' j w m n) ∧ (∀ y, y ≠ 59 → y ≠ 62 → c' y = c y) ∧ c' 59 4 = nI (drS V K E s (V 20 2)) ∧ ∀ k, k < V 20 2 → c' 62 k = nI (drL V K E s k)) ?_ ?_ 5000 0 (Nat.zero_le _) (by omega) c (fun _ _ _ => rfl) hc (fun k h => absurd h (Nat.not_lt_zero _))
  · intro i f hi ih c0 f0 s0 g0
    have hV0 : RV c0 v V := hV.fr hv fun y _ _ => f0 y (by omega) (by omega)
    have hK0 : RK c0 kp V K E := hK.fr (f0 _ (by rcases hk with rfl | rfl | rfl | rfl | rfl <;> decide) (by rcases hk with rfl | rfl | rfl | rfl | rfl <;> decide)) (f0 _ (by rcases hk with rfl | rfl | rfl | rfl | rfl <;> decide) (by rcases hk with rfl | rfl | rfl | rfl | rfl <;> decide))
    obtain ⟨c1, e1, f1, s1⟩ := c_drawn (c := c0) (j := j) (w := w) (m := m) (n := n) hv hw hk g gk ge hV0 hK0 hi (drS_lt hs i) s0
    unfold X6_drawIdle_L2_s
    rw [F59_3, hw, ob_some, V_2 hv, ob_some, T_count (V_wats hv), ob_some, show c0 (v + 5) 3 = nI (V 20 2) from hV0.1 2 (by omega), if_neg (by rw [N_le (by omega) (by omega)]; omega), F59_1, ob_some, cV_eq F59_is, e1, bd_eq, cVv_eq (T_is lost_T), T_put0 lost_T (by omega) (by omega), ob_some, show (1 : Int32) = nI 1 from rfl, N_add]
    refine ih _ (fun y hy hy' => by simp only [va_up, if_neg hy']; rw [f1 y hy]; exact f0 y hy hy') (by simp only [va_up]; rw [if_neg (by omega), s1]; rfl) fun k hk' => ?_
    simp only [va_up, if_true, upd, Nat.mul_one]
    by_cases e : k = i
    · subst e; rw [if_pos rfl]; rfl
    · rw [if_neg e, f1 62 (by omega)]; exact g0 k (by omega)
  · intro f c0 f0 s0 g0
    refine ⟨c0, ?_, f0, s0, g0⟩
    have hV0 : RV c0 v V := hV.fr hv fun y _ _ => f0 y (by omega) (by omega)
    unfold X6_drawIdle_L2_s
    rw [F59_3, hw, ob_some, V_2 hv, ob_some, T_count (V_wats hv), ob_some, show c0 (v + 5) 3 = nI (V 20 2) from hV0.1 2 (by omega), if_pos (by rw [N_le (by omega) (by omega)]; omega)]
end
