/-! the reference: more loops -/
section
variable {c : Nat → Nat → Int32} {j : Nat → Nat → Int64} {w : Nat → Nat} {m : Nat → Nat → Int32} {n : Nat → Nat → Int64} {V K : Nat → Nat → Nat} {E L : Nat → Nat} {S : Nat → Bool}
theorem m_stWho (h : MN m V K) {k : Nat} (hk : k < V 20 2) : aI (enc c j w m n) 82 (12 + nI k) = some (nI (K 0 k)) := by
  have g12 := h.1.1.2.2.1
  rw [show (12 : Int32) + nI k = nI (12 + k) from N_add 12 k, M82 (by omega)]
  have := (h.2.2.2.2.1 k hk).2
  rw [Nat.zero_add] at this; rw [this]
theorem m_stCourse (h : MN m V K) {k : Nat} (hk : k < V 20 2) : aI (enc c j w m n) 82 (nI k) = some (nI (K 1 k)) := by
  have g12 := h.1.1.2.2.1
  rw [M82 (by omega)]
  have := (h.2.2.2.2.1 k hk).1
  rw [Nat.zero_add] at this; rw [this]
theorem m_watchesOf (h : MN m V K) {b : Nat} (hb : b < V 20 0) : X11_watchesOf 75 (nI b) (enc c j w m n) = some (nI (fm (fun k => K 0 k == b) (V 20 2)), enc c j w m n) := by
  have g := h.1
  have g12 := g.1.2.2.1
  have g5 := g.1.1
  refine loop_up (z := fun _ _ _ _ _ => none) (s := X11_watchesOf_L4_s) (V 20 2) (fun i f => f 75 (nI b) (nI (fm (fun k => K 0 k == b) i)) (nI i) (enc c j w m n) = some (nI (fm (fun k => K 0 k == b) (V 20 2)), enc c j w m n)) ?_ ?_ 5000 0 (Nat.zero_le _) (by omega)
  · intro i f hi ih
    have hk := (h.2.1 i hi).1
    unfold X11_watchesOf_L4_s X11_watchesOf_B35
    rw [R75_15, ob_some, rW h.2.2.1, ob_some, if_neg (by rw [N_le (by omega) (by omega)]; omega), R75_19, ob_some, m_stWho h hi, ob_some, pin_eq, pin_eq, show nI i + 1 = nI (i + 1) from N_add i 1]
    rw [fm] at ih
    by_cases e : K 0 i = b
    · rw [if_pos (by simp [e])] at ih
      rw [if_pos (by rw [e]), show (1 : Int32) = nI 1 from rfl, N_shl (by omega), N_or]; exact ih
    · rw [if_neg (by simp [e])] at ih
      rw [if_neg (by rw [N_inj (by omega) (by omega)]; exact e), show (0 : Int32) = nI 0 from rfl, N_or, Nat.or_zero]; exact ih
  · intro f
    unfold X11_watchesOf_L4_s
    rw [R75_15, ob_some, rW h.2.2.1, ob_some, if_pos (by rw [N_le (by omega) (by omega)]; omega)]
theorem m_offL (h : MN m V K) {b : Nat} (hb : b < V 20 1) : X11_officer_L61 5000 75 (nI b) 0 0 (enc c j w m n) = some (nI (fm (fun k => V 3 k == b) (V 20 2)), enc c j w m n) := by
  have g := h.1
  have g12 := g.1.2.2.1
  have g5 := g.1.2.1
  refine loop_up (z := fun _ _ _ _ _ => none) (s := X11_officer_L61_s) (V 20 2) (fun i f => f 75 (nI b) (nI (fm (fun k => V 3 k == b) i)) (nI i) (enc c j w m n) = some (nI (fm (fun k => V 3 k == b) (V 20 2)), enc c j w m n)) ?_ ?_ 5000 0 (Nat.zero_le _) (by omega)
  · intro i f hi ih
    have hk := (g.2.2.2.2.1 i hi).2.1
    unfold X11_officer_L61_s X11_officer_B97
    rw [R75_15, ob_some, rW h.2.2.1, ob_some, if_neg (by rw [N_le (by omega) (by omega)]; omega), ob_some, show (26 : Int32) + 2 * nI i = nI (26 + 2 * i) from IX 26 i, M78 (by omega), ob_some, (h.2.2.1.2.2.2.2.1 i hi).1, pin_eq, pin_eq, show nI i + 1 = nI (i + 1) from N_add i 1]
    rw [fm] at ih
    by_cases e : V 3 i = b
    · rw [if_pos (by simp [e])] at ih
      rw [if_pos (by rw [e]), show (1 : Int32) = nI 1 from rfl, N_shl (by omega), N_or]; exact ih
    · rw [if_neg (by simp [e])] at ih
      rw [if_neg (by rw [N_inj (by omega) (by omega)]; exact e), show (0 : Int32) = nI 0 from rfl, N_or, Nat.or_zero]; exact ih
  · intro f
    unfold X11_officer_L61_s
    rw [R75_15, ob_some, rW h.2.2.1, ob_some, if_pos (by rw [N_le (by omega) (by omega)]; omega)]
theorem m_stoleOf (h : MN m V K) (hs : ∀ k, k < V 20 2 → m 87 k = nI (lNw V K k)) {b : Nat} (hb : b < V 20 0) : X11_stoleOf 75 (nI b) (enc c j w m n) = some (nI (oS V K b), enc c j w m n) := by
  have g := h.1
  have g12 := g.1.2.2.1
  have g5 := g.1.1
  refine loop_up (z := fun _ _ _ _ _ => none) (s := X11_stoleOf_L4_s) (V 20 2) (fun i f => f 75 (nI b) (nI (sumN (fun k => if K 0 k = b then lNw V K k else 0) i)) (nI i) (enc c j w m n) = some (nI (oS V K b), enc c j w m n)) ?_ ?_ 5000 0 (Nat.zero_le _) (by omega)
  · intro i f hi ih
    have hk := (h.2.1 i hi).1
    unfold X11_stoleOf_L4_s X11_stoleOf_B38
    rw [R75_15, ob_some, rW h.2.2.1, ob_some, if_neg (by rw [N_le (by omega) (by omega)]; omega), R75_19, ob_some, m_stWho h hi, ob_some, show nI i + 1 = nI (i + 1) from N_add i 1]
    rw [sumN] at ih
    by_cases e : K 0 i = b
    · rw [if_pos e] at ih
      rw [if_pos (by rw [e]), R75_26, ob_some, M87 (by omega), ob_some, hs i hi, pin_eq, N_add]; exact ih
    · rw [if_neg e] at ih
      rw [if_neg (by rw [N_inj (by omega) (by omega)]; exact e), pin_eq, show (0 : Int32) = nI 0 from rfl, N_add]; exact ih
  · intro f
    unfold X11_stoleOf_L4_s
    rw [R75_15, ob_some, rW h.2.2.1, ob_some, if_pos (by rw [N_le (by omega) (by omega)]; omega)]
    rfl
theorem oS_le (g : GV V) (gk : GK V K) (b : Nat) : oS V K b ≤ 12 * 240 := by
  have g12 := g.1.2.2.1
  have := sumN_b (f := fun k => if K 0 k = b then lNw V K k else 0) (q := 240) (N := V 20 2) (fun i hi => by
    have := lNw_le g gk i hi
    show (if _ then _ else _) ≤ _
    split <;> omega)
  unfold oS; omega
theorem m_thiefL (h : MN m V K) (hs : ∀ k, k < V 20 2 → m 87 k = nI (lNw V K k)) : X11_thief_L26 5000 75 (-2) 0 (enc c j w m n) = some (iI (amx (oS V K) (V 20 0)), enc c j w m n) := by
  have g := h.1
  have g5 := g.1.1
  refine loop_up (z := fun _ _ _ _ => none) (s := X11_thief_L26_s) (V 20 0) (fun i f => f 75 (iI (amx (oS V K) i)) (nI i) (enc c j w m n) = some (iI (amx (oS V K) (V 20 0)), enc c j w m n)) ?_ ?_ 5000 0 (Nat.zero_le _) (by omega)
  · intro i f hi ih
    have hr := amx_range (f := oS V K) i
    have hz : iI (amx (oS V K) i) < 0 ↔ amx (oS V K) i < 0 := Z_lt (b := 0) (by omega) (by omega) (by omega) (by omega)
    have o1 := oS_le g h.2.1 i
    have o2 := oS_le g h.2.1 (amx (oS V K) i).toNat
    unfold X11_thief_L26_s X11_thief_B53 X11_thief_B55
    rw [R75_15, ob_some, rB h.2.2.1, ob_some, if_neg (by rw [N_le (by omega) (by omega)]; omega), show nI i + 1 = nI (i + 1) from N_add i 1]
    rw [amx] at ih
    by_cases e : amx (oS V K) i < 0
    · rw [if_pos (Or.inl e)] at ih
      rw [if_pos (hz.mpr e), nI_iI i]; exact ih
    · rw [if_neg (fun z => e (hz.mp z)), cV75, m_stoleOf h hs hi, bd_eq, cV75, show iI (amx (oS V K) i) = nI (amx (oS V K) i).toNat by rw [nI_iI]; congr 1; omega, m_stoleOf h hs (by omega), bd_eq, show nI (amx (oS V K) i).toNat = iI (amx (oS V K) i) by rw [nI_iI]; congr 1; omega]
      by_cases e2 : oS V K (amx (oS V K) i).toNat < oS V K i
      · rw [if_pos (Or.inr e2)] at ih
        rw [if_neg (by rw [N_le (by omega) (by omega)]; omega), nI_iI i]; exact ih
      · rw [if_neg (fun z => z.elim e e2)] at ih
        rw [if_pos (by rw [N_le (by omega) (by omega)]; omega)]; exact ih
  · intro f
    unfold X11_thief_L26_s
    rw [R75_15, ob_some, rB h.2.2.1, ob_some, if_pos (by rw [N_le (by omega) (by omega)]; omega)]
def lwF (L : Nat → Nat) (N : Nat) : Int := fiF (fun k => decide (240 ≤ sumN L (k + 1))) N
theorem m_lostL (h : MN m V K) (hs : ∀ k, k < V 20 2 → m 87 k = nI (lNw V K k)) : X11_lostWatch_L23 5000 75 0 (enc c j w m n) = some (iI (lwF (lNw V K) (V 20 2)), enc c j w m n) := by
  have g := h.1
  have g12 := g.1.2.2.1
  refine loop_up (z := fun _ _ _ => none) (s := X11_lostWatch_L23_s) (V 20 2) (fun i f => (∀ i', i' < i → decide (240 ≤ sumN (lNw V K) (i' + 1)) = false) → f 75 (nI i) (enc c j w m n) = some (iI (lwF (lNw V K) (V 20 2)), enc c j w m n)) ?_ ?_ 5000 0 (Nat.zero_le _) (by omega) (fun i h => absurd h (Nat.not_lt_zero _))
  · intro i f hi ih hn
    have hb := sumN_b (f := lNw V K) (q := 240) (N := i + 1) (fun k hk => lNw_le g h.2.1 k (by omega))
    unfold X11_lostWatch_L23_s
    rw [R75_15, ob_some, rW h.2.2.1, ob_some, if_neg (by rw [N_le (by omega) (by omega)]; omega), cV75, show nI i + 1 = nI (i + 1) from N_add i 1, m_sumFirst (q := i + 1) (L := lNw V K) (by omega) (fun k hk => hs k (by omega)), bd_eq, show (240 : Int32) = nI 240 from rfl]
    by_cases e : 240 ≤ sumN (lNw V K) (i + 1)
    · rw [if_neg (by rw [N_lt (by omega) (by omega)]; omega), nI_iI, show lwF (lNw V K) (V 20 2) = (i : Int) from fiF_at (p := fun k => decide (240 ≤ sumN (lNw V K) (k + 1))) (by simpa using e) hn hi]
    · rw [if_pos (by rw [N_lt (by omega) (by omega)]; omega)]
      refine ih fun i' hi' => ?_
      rcases Nat.lt_or_eq_of_le (Nat.le_of_lt_succ hi') with h1 | h1
      · exact hn i' h1
      · subst h1; simpa using e
  · intro f hn
    unfold X11_lostWatch_L23_s
    rw [R75_15, ob_some, rW h.2.2.1, ob_some, if_pos (by rw [N_le (by omega) (by omega)]; omega), show lwF (lNw V K) (V 20 2) = -2 from fiF_none hn]
    rfl
theorem m_worstL (h : MN m V K) (hs : RSail m V K (lNw V K) S (V 20 2)) : X11_worst_L25 5000 75 0 1 (enc c j w m n) = some (nI (wst (aptS V K (lNw V K) S) (V 20 2 + 1)), enc c j w m n) := by
  have g := h.1
  have g12 := g.1.2.2.1
  have e1 : wst (aptS V K (lNw V K) S) 1 = 0 := by unfold wst; split <;> rfl
  have L := loop_up (z := fun _ _ _ _ => none) (s := X11_worst_L25_s) (V 20 2 + 1) (fun i f => 1 ≤ i → f 75 (nI (wst (aptS V K (lNw V K) S) i)) (nI i) (enc c j w m n) = some (nI (wst (aptS V K (lNw V K) S) (V 20 2 + 1)), enc c j w m n)) ?_ ?_ 5000 1 (by omega) (by omega) (Nat.le_refl _)
  · rw [e1] at L; exact L
  · intro i f hi ih h1
    have hr : wst (aptS V K (lNw V K) S) i ≤ V 20 2 := by have := wst_lt (f := aptS V K (lNw V K) S) i; omega
    have b1 := aptS_b (K := K) (S := S) g (lNw_le g h.2.1) (b := i) (by omega)
    have b2 := aptS_b (K := K) (S := S) g (lNw_le g h.2.1) (b := wst (aptS V K (lNw V K) S) i) hr
    have ih := ih (by omega)
    unfold X11_worst_L25_s X11_worst_B50
    rw [R75_15, ob_some, rW h.2.2.1, ob_some, if_neg (by rw [N_lt (by omega) (by omega)]; omega), cV75, m_errorOf g (lNw_le g h.2.1) hs (Nat.le_refl _) (by omega), bd_eq, cV75, m_errorOf g (lNw_le g h.2.1) hs (Nat.le_refl _) hr, bd_eq, show nI i + 1 = nI (i + 1) from N_add i 1]
    rw [wst] at ih
    by_cases e : aptS V K (lNw V K) S (wst (aptS V K (lNw V K) S) i) < aptS V K (lNw V K) S i
    · rw [if_pos e] at ih
      rw [if_neg (by rw [Z_le (by omega) (by omega) (by omega) (by omega)]; omega)]; exact ih
    · rw [if_neg e] at ih
      rw [if_pos (by rw [Z_le (by omega) (by omega) (by omega) (by omega)]; omega)]; exact ih
  · intro f _
    unfold X11_worst_L25_s
    rw [R75_15, ob_some, rW h.2.2.1, ob_some, if_pos (by rw [N_lt (by omega) (by omega)]; omega)]
theorem m_lookL (h : MN m V K) (hd : ∀ k, k < V 20 2 → swS V K (bits (1 <<< k)) + sav V K k = sumN (stl V K (V 1)) (V 20 2)) : ∃ m', X11_lookFirst_L21 5000 75 0 1 (enc c j w m n) = some (nI (b1 (sav V K) (V 20 2)), enc c j w m' n) ∧ mf m m' := by
  have g := h.1
  have g12 := g.1.2.2.1
  have g1 := g.1.2.2.2.2.2.2.2
  have hp := pow12 g
  have hsum := sumN_b (f := stl V K (V 1)) (q := 160) (N := V 20 2) (fun i hi => stl_le g h.2.1 (GE1 g) hi)
  have e1 : b1 (sav V K) 1 = 0 := by unfold b1; split <;> rfl
  have sh : ∀ k, k < V 20 2 → 1 <<< k < 4096 := fun k hk => by
    rw [Nat.one_shiftLeft]; exact Nat.lt_of_lt_of_le (Nat.pow_lt_pow_right (by omega) hk) hp
  have L := loop_up (z := fun _ _ _ _ => none) (s := X11_lookFirst_L21_s) (V 20 2) (fun i f => 1 ≤ i → ∀ m1, mf m m1 → ∃ m', f 75 (nI (b1 (sav V K) i)) (nI i) (enc c j w m1 n) = some (nI (b1 (sav V K) (V 20 2)), enc c j w m' n) ∧ mf m m') ?_ ?_ 5000 1 g1 (by omega) (Nat.le_refl _) m (mf.rf m)
  · rw [e1] at L; exact L
  · intro i f hi ih h1 m1 f1
    have hr := b1_lt (s := sav V K) i (by omega)
    have d1 := hd i hi
    have d2 := hd (b1 (sav V K) i) (by omega)
    obtain ⟨m2, e2, f2⟩ := m_stolenWith (c := c) (j := j) (w := w) (m := m1) (n := n) (h.mf f1) (B := 1 <<< i) (sh i hi)
    obtain ⟨m3, e3, f3⟩ := m_stolenWith (c := c) (j := j) (w := w) (m := m2) (n := n) ((h.mf f1).mf f2) (B := 1 <<< b1 (sav V K) i) (sh _ (by omega))
    have ih := ih (by omega) m3 ((f1.tr f2).tr f3)
    unfold X11_lookFirst_L21_s X11_lookFirst_B50
    rw [R75_15, ob_some, rW (h.mf f1).2.2.1, ob_some, if_neg (by rw [N_le (by omega) (by omega)]; omega), cV75, show (1 : Int32) <<< (nI i &&& 31) = nI (1 <<< i) from N_shl (a := 1) (by omega), e2, bd_eq, cV75, show (1 : Int32) <<< (nI (b1 (sav V K) i) &&& 31) = nI (1 <<< b1 (sav V K) i) from N_shl (a := 1) (by omega), e3, bd_eq, show nI i + 1 = nI (i + 1) from N_add i 1]
    rw [b1] at ih
    by_cases e : sav V K (b1 (sav V K) i) < sav V K i
    · rw [if_pos e] at ih
      rw [if_neg (by rw [N_le (by omega) (by omega)]; omega)]; exact ih
    · rw [if_neg e] at ih
      rw [if_pos (by rw [N_le (by omega) (by omega)]; omega)]; exact ih
  · intro f _ m1 f1
    refine ⟨m1, ?_, f1⟩
    unfold X11_lookFirst_L21_s
    rw [R75_15, ob_some, rW (h.mf f1).2.2.1, ob_some, if_pos (by rw [N_le (by omega) (by omega)]; omega)]
/-- by the first change -/
def chI (p : Nat → Nat → Bool) (k : Nat) : Nat → Int
  | 0 => -2
  | q + 1 => if chI p k q = -2 then (if p k q then 10 * (k : Int) + q else -2) else chI p k q
def chO (p : Nat → Nat → Bool) : Nat → Int
  | 0 => -2
  | k + 1 => if chO p k = -2 then chI p k 4 else chO p k
def chB (V K : Nat → Nat → Nat) (k q : Nat) : Bool := perS V (KC K k q) (2 ^ V 20 5) == 0
theorem chI_none {p : Nat → Nat → Bool} {k : Nat} : ∀ {q : Nat}, (∀ i, i < q → p k i = false) → chI p k q = -2
  | 0, _ => rfl
  | q + 1, h => by unfold chI; rw [chI_none fun i hi => h i (by omega), if_pos rfl, h q (by omega)]; rfl
theorem chI_at {p : Nat → Nat → Bool} {k i : Nat} (hp : p k i = true) (hn : ∀ i', i' < i → p k i' = false) : ∀ {q : Nat}, i < q → chI p k q = 10 * (k : Int) + i
  | 0, h => absurd h (Nat.not_lt_zero _)
  | q + 1, h => by
    unfold chI
    by_cases e : i = q
    · subst e; rw [chI_none hn, if_pos rfl, hp]; rfl
    · rw [chI_at hp hn (q := q) (by omega), if_neg (by omega)]
theorem chO_none {p : Nat → Nat → Bool} : ∀ {k : Nat}, (∀ i, i < k → chI p i 4 = -2) → chO p k = -2
  | 0, _ => rfl
  | k + 1, h => by unfold chO; rw [chO_none fun i hi => h i (by omega), if_pos rfl]; exact h k (by omega)
theorem chO_at {p : Nat → Nat → Bool} {i : Nat} (hp : chI p i 4 ≠ -2) (hn : ∀ i', i' < i → chI p i' 4 = -2) : ∀ {k : Nat}, i < k → chO p k = chI p i 4
  | 0, h => absurd h (Nat.not_lt_zero _)
  | k + 1, h => by
    unfold chO
    by_cases e : i = k
    · subst e; rw [chO_none hn, if_pos rfl]
    · rw [chO_at hp hn (k := k) (by omega), if_neg hp]
theorem perS_le (N : Nat) : perS V K N ≤ N := by
  unfold perS
  have : ∀ N, sumN (fun s => if stkS V K s = -2 then 0 else 1) N ≤ N := by
    intro N
    induction N with
    | zero => exact Nat.le_refl _
    | succ N ih => rw [sumN]; split <;> omega
  exact this N
theorem m_changeL (h : MN m V K) : ∃ m', X11_change_L19 5000 75 0 (enc c j w m n) = some (iI (chO (chB V K) (V 20 2)), enc c j w m' n) ∧ mf m m' := by
  have g := h.1
  have g12 := g.1.2.2.1
  have hN := sets_lt g
  refine loop_up (z := fun _ _ _ => none) (s := X11_change_L19_s) (V 20 2) (fun k f => (∀ i, i < k → chI (chB V K) i 4 = -2) → ∀ m1, mf m m1 → ∃ m', f 75 (nI k) (enc c j w m1 n) = some (iI (chO (chB V K) (V 20 2)), enc c j w m' n) ∧ mf m m') ?_ ?_ 5000 0 (Nat.zero_le _) (by omega) (fun i h => absurd h (Nat.not_lt_zero _)) m (mf.rf m)
  · intro k f hk ih hn m1 f1
    unfold X11_change_L19_s
    rw [R75_15, ob_some, rW (h.mf f1).2.2.1, ob_some, if_neg (by rw [N_le (by omega) (by omega)]; omega)]
    refine loop_up (z := fun _ _ _ _ => none) (s := X11_change_L31_s f) 4 (fun q f' => (∀ i, i < q → chB V K k i = false) → ∀ m1, mf m m1 → ∃ m', f' 75 (nI k) (nI q) (enc c j w m1 n) = some (iI (chO (chB V K) (V 20 2)), enc c j w m' n) ∧ mf m m') ?_ ?_ 5000 0 (Nat.zero_le _) (by omega) (fun i h => absurd h (Nat.not_lt_zero _)) m1 f1
    · intro q f' hq ih' hn' m2 f2
      obtain ⟨m3, e3, f3⟩ := m_perilsK (c := c) (j := j) (w := w) (m := m2) (n := n) (h.mf f2) hk hq
      have hle := perS_le (V := V) (K := KC K k q) (2 ^ V 20 5)
      unfold X11_change_L31_s
      rw [show (4 : Int32) = nI 4 from rfl, if_neg (by rw [N_le (by omega) (by omega)]; omega), cV75, e3, bd_eq, show nI q + 1 = nI (q + 1) from N_add q 1]
      by_cases e : perS V (KC K k q) (2 ^ V 20 5) = 0
      · have eb : chB V K k q = true := by unfold chB; simp [e]
        have ei := chI_at eb hn' hq
        rw [if_pos (by rw [e]; rfl)]
        refine ⟨m3, ?_, f2.tr f3⟩
        rw [chO_at (i := k) (by rw [ei]; omega) hn hk, ei, nI_iI, nI_iI, show (10 : Int32) = iI 10 from rfl, Z_mul, Z_add]
      · have eb : chB V K k q = false := by unfold chB; simp [e]
        rw [if_neg (by rw [show (0 : Int32) = nI 0 from rfl, N_inj (by omega) (by omega)]; exact e)]
        refine ih' (fun i hi => ?_) m3 (f2.tr f3)
        rcases Nat.lt_or_eq_of_le (Nat.le_of_lt_succ hi) with h1 | h1
        · exact hn' i h1
        · subst h1; exact eb
    · intro f' hn' m2 f2
      unfold X11_change_L31_s
      rw [if_pos (by decide), show nI k + 1 = nI (k + 1) from N_add k 1]
      refine ih (fun i hi => ?_) m2 f2
      rcases Nat.lt_or_eq_of_le (Nat.le_of_lt_succ hi) with h1 | h1
      · exact hn i h1
      · subst h1; exact chI_none hn'
  · intro f hn m1 f1
    refine ⟨m1, ?_, f1⟩
    unfold X11_change_L19_s
    rw [R75_15, ob_some, rW (h.mf f1).2.2.1, ob_some, if_pos (by rw [N_le (by omega) (by omega)]; omega), chO_none hn]
    rfl
def KB (K : Nat → Nat → Nat) (k b : Nat) (r i : Nat) : Nat := if r = 0 ∧ i = k then b else K r i
theorem GKB (gk : GK V K) {k b : Nat} (hb : b < V 20 0) : GK V (KB K k b) := fun i hi => by
  have := gk i hi
  unfold KB
  refine ⟨?_, ?_, ?_⟩
  · split
    · exact hb
    · exact this.1
  · rw [if_neg (by omega)]; exact this.2.1
  · rw [if_neg (by omega)]; exact this.2.2
theorem MK_boy {a : Nat} (hK : MK m a 0 V K) (g : GV V) {k b : Nat} (hk : k < V 20 2) : MK (va_up m a (upd (m a) (12 + k) (nI b))) a 0 V (KB K k b) := by
  have g12 := g.1.2.2.1
  obtain ⟨k1, M, hM, k2, k3⟩ := hK
  refine ⟨fun i hi => ?_, M, hM, ?_, fun i hi => ?_⟩
  · rw [vup_at]
    obtain ⟨q1, q2⟩ := k1 i hi
    refine ⟨?_, ?_⟩
    · rw [upd_ne (by omega)]; unfold KB; rw [if_neg (by omega)]; exact q1
    · unfold KB
      by_cases e : i = k
      · subst e; rw [if_pos ⟨rfl, rfl⟩]; unfold upd; rw [if_pos (by omega)]
      · rw [upd_ne (by omega), if_neg (fun z => e z.2)]; exact q2
  · rw [vup_at, upd_ne (by omega)]; exact k2
  · rw [k3 i hi]; unfold KB; rw [if_neg (by omega)]
theorem m_reliefL (h : LD m V K (V 1)) {k : Nat} (hk : k < V 20 2) : ∃ m', X11_relief_L37 5000 75 (nI k) (-2) 100000000 0 (enc c j w m n) = some (nI (amn (fun b => stl V (KB K k b) (V 1) k) (V 20 0)), enc c j w m' n) ∧ ls m m' := by
  have g := h.1
  have g5 := g.1.1
  have g12 := g.1.2.2.1
  have hb0 := (h.2.1 k hk).1
  have hst : ∀ b, b < V 20 0 → stl V (KB K k b) (V 1) k ≤ 160 := fun b hb => stl_le g (GKB h.2.1 hb) (GE1 g) hk
  have L := loop_up (z := fun _ _ _ _ _ _ => none) (s := X11_relief_L37_s) (V 20 0) (fun i f => ∀ m1 K1, ls m m1 → LD m1 V K1 (V 1) → (∀ b, KB K1 k b = KB K k b) → ∀ (x y : Int32), (i = 0 → x = -2 ∧ y = 100000000) → (i ≠ 0 → x = nI (amn (fun b => stl V (KB K k b) (V 1) k) i) ∧ y = nI (stl V (KB K k (amn (fun b => stl V (KB K k b) (V 1) k) i)) (V 1) k)) → ∃ m', f 75 (nI k) x y (nI i) (enc c j w m1 n) = some (nI (amn (fun b => stl V (KB K k b) (V 1) k) (V 20 0)), enc c j w m' n) ∧ ls m m') ?_ ?_ 5000 0 (Nat.zero_le _) (by omega) m K (ls.rf m) h (fun _ => rfl) (-2) 100000000 (fun _ => ⟨rfl, rfl⟩) (fun z => absurd rfl z)
  · exact L
  · intro i f hi ih m1 K1 l1 d1 hK1 x y h0 h1
    have k2 := MK_boy d1.2.2.2.2.1 g (b := i) hk
    generalize hx : upd (m1 85) (12 + k) (nI i) = xx at k2
    have d2 : LD (va_up m1 85 xx) V (KB K1 k i) (V 1) := ⟨g, GKB d1.2.1 hi, GE1 g, d1.2.2.2.1.fr (vup_ne _ _ (by omega)), k2, ME_85 d1.2.2.2.2.2.1 xx, RD_85 d1.2.2.2.2.2.2 xx⟩
    obtain ⟨m3, e3, q3⟩ := m_stl (c := c) (j := j) (w := w) (m := va_up m1 85 xx) (n := n) d2 hk
    have hKK : ∀ b, KB (KB K1 k i) k b = KB K k b := fun b => by
      rw [← hK1 b]; funext r s; unfold KB; split <;> simp_all
    have hrec := ih m3 (KB K1 k i) ((ls_85 l1 xx).tr q3.ls) (d2.q q3) hKK
    have hs1 := hst i hi
    unfold X11_relief_L37_s X11_relief_B81
    rw [R75_15, ob_some, rB d1.2.2.2.1, ob_some, if_neg (by rw [N_le (by omega) (by omega)]; omega), R75_24, ob_some, show (12 : Int32) + nI k = nI (12 + k) from N_add 12 k, S85 (by omega), ob_some, hx, cV75, e3, bd_eq, hK1, show nI i + 1 = nI (i + 1) from N_add i 1]
    by_cases e0 : i = 0
    · obtain ⟨rfl, rfl⟩ := h0 e0
      have ea : amn (fun b => stl V (KB K k b) (V 1) k) (i + 1) = i := by rw [amn, if_pos (Or.inl e0)]
      rw [if_pos (by rw [show (100000000 : Int32) = nI 100000000 from rfl, N_lt (by omega) (by omega)]; omega)]
      exact hrec _ _ (fun z => absurd z (by omega)) (fun _ => by rw [ea]; exact ⟨rfl, rfl⟩)
    · obtain ⟨rfl, rfl⟩ := h1 e0
      have hle := amn_lt (f := fun b => stl V (KB K k b) (V 1) k) i
      have hlt : amn (fun b => stl V (KB K k b) (V 1) k) i < V 20 0 := by omega
      have hs2 := hst _ hlt
      by_cases e : stl V (KB K k i) (V 1) k < stl V (KB K k (amn (fun b => stl V (KB K k b) (V 1) k) i)) (V 1) k
      · have ea : amn (fun b => stl V (KB K k b) (V 1) k) (i + 1) = i := by rw [amn, if_pos (Or.inr e)]
        rw [if_pos (by rw [N_lt (by omega) (by omega)]; exact e)]
        exact hrec _ _ (fun z => absurd z (by omega)) (fun _ => by rw [ea]; exact ⟨rfl, rfl⟩)
      · have ea : amn (fun b => stl V (KB K k b) (V 1) k) (i + 1) = amn (fun b => stl V (KB K k b) (V 1) k) i := by rw [amn, if_neg (fun z => z.elim e0 e)]
        rw [if_neg (by rw [N_lt (by omega) (by omega)]; exact e)]
        exact hrec _ _ (fun z => absurd z (by omega)) (fun _ => by rw [ea]; exact ⟨rfl, rfl⟩)
  · intro f m1 K1 l1 d1 hK1 x y h0 h1
    refine ⟨m1, ?_, l1⟩
    unfold X11_relief_L37_s
    rw [R75_15, ob_some, rB d1.2.2.2.1, ob_some, if_pos (by rw [N_le (by omega) (by omega)]; omega), (h1 (by omega)).1]
end
