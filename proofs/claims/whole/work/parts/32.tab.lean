/-! tables of the class -/
theorem cVv_eq {β : Type} {h : Hp} {a ci : Nat} {o : Option Hp} {K : Hp → Option β} (e : isC h a ci = true) : cVv h a ci o K = o.bind K := by unfold cVv; rw [if_pos e]
theorem rZ_0 (h : Hp) : rZ 0 h = some (0, h) := by unfold rZ; simp
theorem rZ_1 (h : Hp) : rZ 1 h = some (1, h) := by unfold rZ; simp
theorem ob_some {α β : Type} (x : α) (K : α → Option β) : (some x).bind K = K x := rfl
def isT (a r wd ca : Nat) : Prop := sk a = .inr (8, [(4, r), (4, wd), (2, ca), (0, 0)]) ∧ sk ca = .inl (1, r * wd) ∧ a < 75 ∧ ca < 75 ∧ r ≤ 16 ∧ wd ≤ 4 ∧ a ≠ ca ∧ r * wd ≤ 64
section
variable {c : Nat → Nat → Int32} {j : Nat → Nat → Int64} {w : Nat → Nat} {m : Nat → Nat → Int32} {n : Nat → Nat → Int64} {a r wd ca : Nat}
theorem T_room (h : isT a r wd ca) : gI (enc c j w m n) a 8 0 = some (nI r) := gI_k h.1 rfl
theorem T_width (h : isT a r wd ca) : gI (enc c j w m n) a 8 1 = some (nI wd) := gI_k h.1 rfl
theorem T_cells (h : isT a r wd ca) : gR (enc c j w m n) a 8 2 = some ca := gR_k h.1 rfl
theorem T_count (h : isT a r wd ca) : gI (enc c j w m n) a 8 3 = some (c a 3) := gI_c h.1 rfl h.2.2.1
theorem T_put (h : isT a r wd ca) {v : Int32} : pF (enc c j w m n) a 8 3 (.int v) = some (enc (va_up c a (upd (c a) 3 v)) j w m n) := pF_c h.1 rfl h.2.2.1
theorem T_is (h : isT a r wd ca) : isC (enc c j w m n) a 8 = true := isC_enc h.1
theorem T_len (h : isT a r wd ca) : aN (enc c j w m n) ca = some (nI (r * wd)) := aN_I h.2.1
theorem T_ix (h : isT a r wd ca) {i q : Nat} (hi : i < r) (hq : q < wd) : i * wd + q < r * wd := by
  have : (i + 1) * wd ≤ r * wd := Nat.mul_le_mul_right _ hi
  rw [Nat.add_mul] at this; omega
theorem T_get (h : isT a r wd ca) {i : Nat} (hi : i < r * wd) : aI (enc c j w m n) ca (nI i) = some (c ca i) := by
  have h8 := h.2.2.2.2.2.2.2
  rw [aI_c h.2.1 h.2.2.2.1, N_tn (by omega), if_neg]
  intro hh
  rcases hh with hh | hh
  · rw [N_lt0 (by omega)] at hh; exact hh
  · omega
theorem T_set (h : isT a r wd ca) {i : Nat} {x : Int32} (hi : i < r * wd) : sI (enc c j w m n) ca (nI i) x = some (enc (va_up c ca (upd (c ca) i x)) j w m n) := by
  have h8 := h.2.2.2.2.2.2.2
  rw [sI_c h.2.1 h.2.2.2.1, N_tn (by omega), if_neg]
  intro hh
  rcases hh with hh | hh
  · rw [N_lt0 (by omega)] at hh; exact hh
  · omega
theorem T_cell (h : isT a r wd ca) {i q : Nat} (hi : i < r) (hq : q < wd) : X8_cell a (nI i) (nI q) (enc c j w m n) = some (c ca (i * wd + q), enc c j w m n) := by
  have h5 := h.2.2.2.2.1
  have h6 := h.2.2.2.2.2.1
  unfold X8_cell
  rw [if_neg (by rw [N_lt0 (by omega)]; exact id), T_room h, ob_some, if_neg (by rw [N_le (by omega) (by omega)]; omega), if_neg (by rw [N_lt0 (by omega)]; exact id), T_width h, ob_some, if_pos (by rw [N_lt (by omega) (by omega)]; omega), T_cells h, ob_some, ob_some, N_mul, N_add, T_get h (T_ix h hi hq), ob_some]
theorem T_cell0 (h : isT a r wd ca) {i : Nat} (hi : i < r) (hq : 0 < wd) : X8_cell a (nI i) 0 (enc c j w m n) = some (c ca (i * wd), enc c j w m n) := T_cell h (q := 0) hi hq
theorem T_cell1 (h : isT a r wd ca) {i : Nat} (hi : i < r) (hq : 1 < wd) : X8_cell a (nI i) 1 (enc c j w m n) = some (c ca (i * wd + 1), enc c j w m n) := T_cell h (q := 1) hi hq
theorem T_cell2 (h : isT a r wd ca) {i : Nat} (hi : i < r) (hq : 2 < wd) : X8_cell a (nI i) 2 (enc c j w m n) = some (c ca (i * wd + 2), enc c j w m n) := T_cell h (q := 2) hi hq
theorem T_cell3 (h : isT a r wd ca) {i : Nat} (hi : i < r) (hq : 3 < wd) : X8_cell a (nI i) 3 (enc c j w m n) = some (c ca (i * wd + 3), enc c j w m n) := T_cell h (q := 3) hi hq
theorem T_cellz (h : isT a r wd ca) (x y : Int32) : ∃ v, X8_cell a x y (enc c j w m n) = some (v, enc c j w m n) := by
  have h5 := h.2.2.2.2.1
  have h6 := h.2.2.2.2.2.1
  by_cases h0 : x < 0
  · exact ⟨0, by unfold X8_cell; rw [if_pos h0]⟩
  by_cases h1 : nI r ≤ x
  · exact ⟨0, by unfold X8_cell; rw [if_neg h0, T_room h, ob_some, if_pos h1]⟩
  by_cases h2 : y < 0
  · exact ⟨0, by unfold X8_cell; rw [if_neg h0, T_room h, ob_some, if_neg h1, if_pos h2]⟩
  by_cases h3 : y < nI wd
  · obtain ⟨i, hi, rfl⟩ := n_of h0 (Int32.not_le.mp h1) (by omega)
    obtain ⟨q, hq, rfl⟩ := n_of h2 h3 (by omega)
    exact ⟨_, T_cell h hi hq⟩
  · exact ⟨0, by unfold X8_cell; rw [if_neg h0, T_room h, ob_some, if_neg h1, if_neg h2, T_width h, ob_some, if_neg h3]⟩
theorem T_putc (h : isT a r wd ca) {i q : Nat} {x : Int32} (hi : i < r) (hq : q < wd) : X8_put a (nI i) (nI q) x (enc c j w m n) = some (enc (va_up c ca (upd (c ca) (i * wd + q) x)) j w m n) := by
  have h5 := h.2.2.2.2.1
  have h6 := h.2.2.2.2.2.1
  unfold X8_put
  rw [if_neg (by rw [N_lt0 (by omega)]; exact id), T_room h, ob_some, if_neg (by rw [N_le (by omega) (by omega)]; omega), if_neg (by rw [N_lt0 (by omega)]; exact id), T_width h, ob_some, if_pos (by rw [N_lt (by omega) (by omega)]; omega), T_cells h, ob_some, ob_some, N_mul, N_add, T_set h (T_ix h hi hq), ob_some]
theorem T_put0 (h : isT a r wd ca) {i : Nat} {x : Int32} (hi : i < r) (hq : 0 < wd) : X8_put a (nI i) 0 x (enc c j w m n) = some (enc (va_up c ca (upd (c ca) (i * wd) x)) j w m n) := T_putc h (q := 0) hi hq
theorem T_put1 (h : isT a r wd ca) {i : Nat} {x : Int32} (hi : i < r) (hq : 1 < wd) : X8_put a (nI i) 1 x (enc c j w m n) = some (enc (va_up c ca (upd (c ca) (i * wd + 1) x)) j w m n) := T_putc h (q := 1) hi hq
theorem T_put2 (h : isT a r wd ca) {i : Nat} {x : Int32} (hi : i < r) (hq : 2 < wd) : X8_put a (nI i) 2 x (enc c j w m n) = some (enc (va_up c ca (upd (c ca) (i * wd + 2) x)) j w m n) := T_putc h (q := 2) hi hq
theorem T_put3 (h : isT a r wd ca) {i : Nat} {x : Int32} (hi : i < r) (hq : 3 < wd) : X8_put a (nI i) 3 x (enc c j w m n) = some (enc (va_up c ca (upd (c ca) (i * wd + 3) x)) j w m n) := T_putc h (q := 3) hi hq
/-- a column that isn't there -/
theorem T_putn (h : isT a r wd ca) {i q : Nat} {x : Int32} (hi : i < r) (hq : wd ≤ q) (hq' : q < 100) : X8_put a (nI i) (nI q) x (enc c j w m n) = some (enc c j w m n) := by
  have h5 := h.2.2.2.2.1
  have h6 := h.2.2.2.2.2.1
  unfold X8_put
  rw [if_neg (by rw [N_lt0 (by omega)]; exact id), T_room h, ob_some, if_neg (by rw [N_le (by omega) (by omega)]; omega), if_neg (by rw [N_lt0 (by omega)]; exact id), T_width h, ob_some, if_neg (by rw [N_lt (by omega) (by omega)]; omega)]
theorem T_full (h : isT a r wd ca) {k : Nat} (hk : c a 3 = nI k) (hb : k < 100) : X8_isFull a (enc c j w m n) = some (if r ≤ k then 1 else 0, enc c j w m n) := by
  have h5 := h.2.2.2.2.1
  unfold X8_isFull
  rw [T_count h, ob_some, T_room h, ob_some, hk]
  by_cases e : r ≤ k
  · rw [if_neg (by rw [N_lt (by omega) (by omega)]; omega), if_pos e, rZ_1]
  · rw [if_pos (by rw [N_lt (by omega) (by omega)]; omega), if_neg e, rZ_0]
/-- one row more -/
theorem T_add (h : isT a r wd ca) {k : Nat} (hk : c a 3 = nI k) (hb : k < r) (x0 x1 x2 x3 : Int32) (hw : 0 < wd) : ∃ c', X8_add a x0 x1 x2 x3 (enc c j w m n) = some (enc c' j w m n) ∧ (∀ y, y ≠ a → y ≠ ca → c' y = c y) ∧ c' a 3 = nI (k + 1) ∧ (∀ i, i < k * wd → c' ca i = c ca i) ∧ c' ca (k * wd) = x0 ∧ (1 < wd → c' ca (k * wd + 1) = x1) ∧ (2 < wd → c' ca (k * wd + 2) = x2) ∧ (3 < wd → c' ca (k * wd + 3) = x3) := by
  have h5 := h.2.2.2.2.1
  have h6 := h.2.2.2.2.2.1
  have h7 := h.2.2.2.2.2.2.1
  have P : ∀ (c0 : Nat → Nat → Int32) (q : Nat) (x : Int32), c0 a 3 = nI k → q < 100 → ∃ c1 : Nat → Nat → Int32, X8_put a (nI k) (nI q) x (enc c0 j w m n) = some (enc c1 j w m n) ∧ (∀ y, y ≠ ca → c1 y = c0 y) ∧ (∀ i, i ≠ k * wd + q → c1 ca i = c0 ca i) ∧ (q < wd → c1 ca (k * wd + q) = x) := by
    intro c0 q x hc hq
    by_cases e : q < wd
    · exact ⟨_, T_putc h hb e, fun y hy => by simp [va_up, hy], fun i hi => by simp [va_up, upd, hi], fun _ => by simp [va_up, upd]⟩
    · exact ⟨c0, T_putn h hb (Nat.not_lt.mp e) hq, fun _ _ => rfl, fun _ _ => rfl, fun e' => absurd e' e⟩
  obtain ⟨c1, e1, f1, g1, v1⟩ := P c 0 x0 hk (by omega)
  obtain ⟨c2, e2, f2, g2, v2⟩ := P c1 1 x1 (by rw [f1 a h7]; exact hk) (by omega)
  obtain ⟨c3, e3, f3, g3, v3⟩ := P c2 2 x2 (by rw [f2 a h7, f1 a h7]; exact hk) (by omega)
  obtain ⟨c4, e4, f4, g4, v4⟩ := P c3 3 x3 (by rw [f3 a h7, f2 a h7, f1 a h7]; exact hk) (by omega)
  refine ⟨va_up c4 a (upd (c4 a) 3 (nI (k + 1))), ?_, ?_, ?_, ?_, ?_, ?_, ?_, ?_⟩
  · unfold X8_add
    rw [cV_eq (T_is h), T_full h hk (by omega), if_neg (show ¬ r ≤ k by omega), bd_eq, if_pos rfl, T_count h, ob_some, hk, cVv_eq (T_is h), show (0 : Int32) = nI 0 from rfl, e1, ob_some, T_count h, ob_some, f1 a h7, hk, cVv_eq (T_is h), show (1 : Int32) = nI 1 from rfl, e2, ob_some, T_count h, ob_some, f2 a h7, f1 a h7, hk, cVv_eq (T_is h), show (2 : Int32) = nI 2 from rfl, e3, ob_some, T_count h, ob_some, f3 a h7, f2 a h7, f1 a h7, hk, cVv_eq (T_is h), show (3 : Int32) = nI 3 from rfl, e4, ob_some, T_count h, ob_some, f4 a h7, f3 a h7, f2 a h7, f1 a h7, hk, N_add, T_put h, ob_some, f4 a h7, f3 a h7, f2 a h7, f1 a h7]
  · intro y hy hy'; simp only [va_up, if_neg hy]; rw [f4 y hy', f3 y hy', f2 y hy', f1 y hy']
  · simp [va_up, upd]
  · intro i hi; simp only [va_up, if_neg (Ne.symm h7)]; rw [g4 i (by omega), g3 i (by omega), g2 i (by omega), g1 i (by omega)]
  · simp only [va_up, if_neg (Ne.symm h7)]; rw [g4 _ (by omega), g3 _ (by omega), g2 _ (by omega)]; exact v1 hw
  · intro hq; simp only [va_up, if_neg (Ne.symm h7)]; rw [g4 _ (by omega), g3 _ (by omega)]; exact v2 hq
  · intro hq; simp only [va_up, if_neg (Ne.symm h7)]; rw [g4 _ (by omega)]; exact v3 hq
  · intro hq; simp only [va_up, if_neg (Ne.symm h7)]; exact v4 hq
theorem T_holds (h : isT a r wd ca) {k q : Nat} {v : Int32} (hk : c a 3 = nI k) (hb : k ≤ r) (hq : q < wd) : X8_holds a (nI q) v (enc c j w m n) = some (if (∃ i, i < k ∧ c ca (i * wd + q) = v) then 1 else 0, enc c j w m n) := by
  have h5 := h.2.2.2.2.1
  refine loop_up (z := fun _ _ _ _ _ => none) (s := X8_holds_L2_s) k (fun i f => (∀ i', i' < i → c ca (i' * wd + q) ≠ v) → f a (nI q) v (nI i) (enc c j w m n) = some (if (∃ i, i < k ∧ c ca (i * wd + q) = v) then 1 else 0, enc c j w m n)) ?_ ?_ 5000 0 (Nat.zero_le _) (by omega) (fun i' h => absurd h (Nat.not_lt_zero _))
  · intro i f hi ih hn
    unfold X8_holds_L2_s
    rw [T_count h, ob_some, hk, if_neg (by rw [N_le (by omega) (by omega)]; omega), cV_eq (T_is h), T_cell h (by omega) hq, bd_eq]
    by_cases e : c ca (i * wd + q) = v
    · rw [if_pos e, rZ_1, if_pos ⟨i, hi, e⟩]
    · rw [if_neg e, show (1 : Int32) = nI 1 from rfl, N_add]
      refine ih fun i' hi' => ?_
      rcases Nat.lt_or_eq_of_le (Nat.le_of_lt_succ hi') with h1 | h1
      · exact hn i' h1
      · subst h1; exact e
  · intro f hn
    unfold X8_holds_L2_s
    rw [T_count h, ob_some, hk, if_pos (by rw [N_le (by omega) (by omega)]; omega), rZ_0, if_neg (fun ⟨i, hi, e⟩ => hn i hi e)]
theorem T_copy (h : isT a r wd ca) {b cb : Nat} (hB : isT b r wd cb) (hd : cb ≠ ca) (hd2 : cb ≠ a) (hd3 : b ≠ ca) : ∃ c', X8_copyFrom a b (enc c j w m n) = some (enc c' j w m n) ∧ (∀ y, y ≠ a → y ≠ ca → c' y = c y) ∧ c' a 3 = c b 3 ∧ (∀ i, i < r * wd → c' ca i = c cb i) := by
  have h7 := h.2.2.2.2.2.2.1
  have h8 := h.2.2.2.2.2.2.2
  have L := loop_up (z := fun _ _ _ _ => none) (s := X8_copyFrom_L10_s) (r * wd) (fun i f => ∀ c0 : Nat → Nat → Int32, (∀ y, y ≠ a → y ≠ ca → c0 y = c y) → c0 a 3 = c b 3 → (∀ i', i' < i → c0 ca i' = c cb i') → ∃ c', f a b (nI i) (enc c0 j w m n) = some (enc c' j w m n) ∧ (∀ y, y ≠ a → y ≠ ca → c' y = c y) ∧ c' a 3 = c b 3 ∧ (∀ i, i < r * wd → c' ca i = c cb i)) ?_ ?_ 5000 0 (Nat.zero_le _) (by omega)
  · obtain ⟨c', e, h1, h2, h3⟩ := L (va_up c a (upd (c a) 3 (c b 3))) (fun y hy _ => by simp [va_up, hy]) (by simp [va_up, upd]) (fun i h => absurd h (Nat.not_lt_zero _))
    refine ⟨c', ?_, h1, h2, h3⟩
    unfold X8_copyFrom
    rw [T_count hB, ob_some, T_put h, ob_some]
    exact e
  · intro i f hi ih c0 i1 i2 i3
    unfold X8_copyFrom_L10_s
    rw [T_cells h, ob_some, T_len h, ob_some, if_neg (by rw [N_le (by omega) (by omega)]; omega), T_cells hB, ob_some, T_len hB, ob_some, if_neg (by rw [N_le (by omega) (by omega)]; omega), ob_some, ob_some, T_get hB hi, ob_some, T_set h hi, ob_some, show (1 : Int32) = nI 1 from rfl, N_add]
    refine ih _ (fun y hy hy' => by simp only [va_up, if_neg hy']; exact i1 y hy hy') (by simp only [va_up, if_neg h7]; exact i2) fun i' hi' => ?_
    simp only [va_up, if_true, upd]
    by_cases e : i' = i
    · subst e; rw [if_pos rfl, i1 cb hd2 hd]
    · rw [if_neg e]; exact i3 i' (by omega)
  · intro f c0 i1 i2 i3
    refine ⟨c0, ?_, i1, i2, i3⟩
    unfold X8_copyFrom_L10_s
    rw [T_cells h, ob_some, T_len h, ob_some, if_pos (by rw [N_le (by omega) (by omega)]; omega)]
end
