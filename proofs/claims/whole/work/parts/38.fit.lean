/-! sets that fit -/
section
variable {c : Nat → Nat → Int32} {j : Nat → Nat → Int64} {w : Nat → Nat} {m : Nat → Nat → Int32} {n : Nat → Nat → Int64} {v : Nat} {V K : Nat → Nat → Nat} {E L : Nat → Nat} {S : Nat → Bool}
theorem misf_range (g : GV V) (s : Nat) : -100 ≤ misf V s ∧ misf V s < 100 := by
  have g3 := g.1.2.2.2.2.2.2.1
  rcases fiF_range (p := fun i => sqS V (KT V) (V 9 i) s != ((V 10 i : Nat) : Int)) (V 20 6) with h | h <;> unfold misf <;> omega
theorem misf_eq2 (g : GV V) (s : Nat) : (iI (misf V s) = -2) ↔ misf V s = -2 := by
  have := misf_range g s
  have h := Z_inj (a := misf V s) (b := -2) (by omega) (by omega) (by omega) (by omega)
  exact h
theorem c_misfit (hv : isV v) (hw : w 3 = v) (g : GV V) (hV : RV c v V) {s : Nat} (hs : s < 16) : ∃ c', X3_firstMisfit 71 (nI s) (enc c j w m n) = some (iI (misf V s), enc c' j w m n) ∧ fs c c' := by
  have g3 := g.1.2.2.2.2.2.2.1
  obtain ⟨c1, e1, f1, k1, s1⟩ := c_asTold (c := c) (j := j) (w := w) (m := m) (n := n) hv hw g hV hs
  have hV1 : RV c1 v V := hV.fr hv fun y _ _ => f1 y (by omega)
  obtain ⟨c2, e2, f2, l2⟩ := c_reckon (c := c1) (j := j) (w := w) (m := m) (n := n) hv hw trial_K g (GKT g) (GES g s) hV1 k1
  unfold X3_firstMisfit
  rw [F71_0, ob_some, F59_3, hw, ob_some, V_6 hv, ob_some, cV_eq F71_is, e1, bd_eq, F71_0, ob_some, cVv_eq F59_is, e2, ob_some]
  have f12 : fs c c2 := fun y hy => by rw [f2 y (by omega), f1 y hy]
  refine loop_up (z := fun _ _ _ _ _ => none) (s := X3_firstMisfit_L28_s) (V 20 6) (fun i f => ∀ c3, (∀ y, y ≠ 60 → c3 y = c2 y) → (∀ i', i' < i → (sqS V (KT V) (V 9 i') s != ((V 10 i' : Nat) : Int)) = false) → ∃ c', f 71 (v + 13) 63 (nI i) (enc c3 j w m n) = some (iI (misf V s), enc c' j w m n) ∧ fs c c') ?_ ?_ 5000 0 (Nat.zero_le _) (by omega) c2 (fun _ _ => rfl) (fun i h => absurd h (Nat.not_lt_zero _))
  · intro i f hi ih c3 f3 hn
    have hV3 : RV c3 v V := hV1.fr hv fun y _ _ => by rw [f3 y (by omega), f2 y (by omega)]
    have k3 : RK c3 63 V (KT V) (eS V s) := k1.fr (by rw [f3 _ (by omega), f2 _ (by omega)]) (by rw [f3 _ (by omega), f2 _ (by omega)])
    have s3 : RS c3 63 V allS := fun i hi => by rw [f3 63 (by omega), f2 63 (by omega)]; exact s1 i hi
    have l3 : ∀ k, k < V 20 2 → c3 62 k = nI (stl V (KT V) (eS V s) k) := fun k hk => by rw [f3 62 (by omega)]; exact l2 k hk
    have hb := g.2.2.2.2.2.2.2.2.2 i hi
    obtain ⟨c4, e4, f4, s4⟩ := c_sail (c := c3) (j := j) (w := w) (m := m) (n := n) hv hw trial_K g (GKT g) hV3 k3 s3 l3 (a := 0) (b := V 9 i) (Nat.zero_le _) hb.1 (Or.inl rfl)
    have f4' : ∀ y, y ≠ 60 → c4 y = c2 y := fun y hy => by rw [f4 y hy, f3 y hy]
    have hV4 : RV c4 v V := hV3.fr hv fun y _ _ => f4 y (by omega)
    obtain ⟨b1, b2⟩ := sq_lt (K := KT V) g (lS_le g (GKT g) s) hb.1
    have hx := sqS_lt (K := KT V) (s := s) g (GKT g) hb.1
    have q3 := hV3.2.2.2.2.2.2.2.2 i hi
    have q4 := hV4.2.2.2.2.2.2.2.2 i hi
    unfold X3_firstMisfit_L28_s
    rw [T_count (V_found hv), ob_some, show c3 (v + 13) 3 = nI (V 20 6) from hV3.1 6 (by omega), if_neg (by rw [N_le (by omega) (by omega)]; omega), F71_0, ob_some, cV_eq (T_is (V_found hv)), T_cell0 (V_found hv) (by omega) (by omega), bd_eq, q3.1, cVv_eq F59_is, show X6_sail 59 63 0 (nI (V 9 i)) (enc c3 j w m n) = _ from e4, ob_some, F71_0, ob_some, F59_0, ob_some, cV_eq F60_is, c_inSquare s4 b1 b2, bd_eq, cV_eq (T_is (V_found hv)), T_cell1 (V_found hv) (by omega) (by omega), bd_eq, q4.2, show sqr (pE V (KT V) (stl V (KT V) (eS V s)) (V 9 i)) (pN V (KT V) (stl V (KT V) (eS V s)) (V 9 i)) = sqS V (KT V) (V 9 i) s from rfl, show nI i + 1 = nI (i + 1) from N_add i 1]
    have heq : iI (sqS V (KT V) (V 9 i) s) = nI (V 10 i) ↔ sqS V (KT V) (V 9 i) s = ((V 10 i : Nat) : Int) := by
      rw [nI_iI]; exact Z_inj hx.1 hx.2 (by omega) (by omega)
    by_cases e : sqS V (KT V) (V 9 i) s = ((V 10 i : Nat) : Int)
    · rw [if_pos (heq.mpr e)]
      refine ih c4 f4' fun i' hi' => ?_
      rcases Nat.lt_or_eq_of_le (Nat.le_of_lt_succ hi') with h1 | h1
      · exact hn i' h1
      · subst h1; simp [e]
    · rw [if_neg (fun z => e (heq.mp z))]
      refine ⟨c4, ?_, fun y hy => by rw [f4' y (by omega)]; exact f12 y hy⟩
      rw [nI_iI, show misf V s = (i : Int) from fiF_at (p := fun i => sqS V (KT V) (V 9 i) s != ((V 10 i : Nat) : Int)) (by simp [e]) hn hi]
  · intro f c3 f3 hn
    have hV3 : RV c3 v V := hV1.fr hv fun y _ _ => by rw [f3 y (by omega), f2 y (by omega)]
    refine ⟨c3, ?_, fun y hy => by rw [f3 y (by omega)]; exact f12 y hy⟩
    unfold X3_firstMisfit_L28_s
    rw [T_count (V_found hv), ob_some, show c3 (v + 13) 3 = nI (V 20 6) from hV3.1 6 (by omega), if_pos (by rw [N_le (by omega) (by omega)]; omega), show misf V s = -2 from fiF_none hn]
    rfl
def fitM (V : Nat → Nat → Nat) : Nat := fm (fitB V) (2 ^ V 20 5)
theorem fitM_lt (g : GV V) : fitM V < 65536 := by
  have h1 := fm_lt (p := fitB V) (2 ^ V 20 5)
  have h2 := sets_lt g
  calc fitM V < 2 ^ (2 ^ V 20 5) := h1
    _ ≤ 2 ^ 16 := Nat.pow_le_pow_right (by omega) h2
    _ = 65536 := rfl
theorem fitM_bit (g : GV V) {i : Nat} (hi : i < 2 ^ V 20 5) : (nI (fitM V) >>> (nI i &&& 31)) &&& 1 = if fitB V i then 1 else 0 := by
  have := fitM_lt g
  have := sets_lt g
  rw [N_bit (by omega) (by omega), show (fitM V).testBit i = fitB V i by unfold fitM; rw [fm_bit]; simp [hi]]
theorem c_fitting (hv : isV v) (hw : w 3 = v) (g : GV V) (hV : RV c v V) : ∃ c', X3_fittingSets 71 (enc c j w m n) = some (nI (fitM V), enc c' j w m n) ∧ fs c c' := by
  have hN := sets_lt g
  refine loop_up (z := fun _ _ _ _ => none) (s := X3_fittingSets_L4_s) (2 ^ V 20 5) (fun i f => ∀ c1, fs c c1 → ∃ c', f 71 (nI (fm (fitB V) i)) (nI i) (enc c1 j w m n) = some (nI (fitM V), enc c' j w m n) ∧ fs c c') ?_ ?_ 5000 0 (Nat.zero_le _) (by omega) c (fun _ _ => rfl)
  · intro i f hi ih c1 f1
    have hV1 : RV c1 v V := hV.fr hv fun y _ _ => f1 y (by omega)
    obtain ⟨c2, e2, f2⟩ := c_misfit (c := c1) (j := j) (w := w) (m := m) (n := n) hv hw g hV1 (s := i) (by omega)
    unfold X3_fittingSets_L4_s X3_fittingSets_B28
    rw [cV_eq F71_is, c_sets hv hw g hV1, bd_eq, if_neg (by rw [N_le (by omega) (by omega)]; omega), cV_eq F71_is, e2, bd_eq, show nI i + 1 = nI (i + 1) from N_add i 1]
    have := ih c2 (f1.tr f2)
    rw [fm] at this
    by_cases e : misf V i = -2
    · rw [if_pos (show fitB V i = true by simp [fitB, e])] at this
      rw [if_pos ((misf_eq2 g i).mpr e), pin_eq, show (1 : Int32) = nI 1 from rfl, N_shl (by omega), N_or]
      exact this
    · rw [if_neg (show ¬ fitB V i = true by simp [fitB, e])] at this
      rw [if_neg (fun z => e ((misf_eq2 g i).mp z))]
      exact this
  · intro f c1 f1
    have hV1 : RV c1 v V := hV.fr hv fun y _ _ => f1 y (by omega)
    refine ⟨c1, ?_, f1⟩
    unfold X3_fittingSets_L4_s
    rw [cV_eq F71_is, c_sets hv hw g hV1, bd_eq, if_pos (by rw [N_le (by omega) (by omega)]; omega)]
    rfl
theorem cnt_succ {p : Nat → Bool} {s : Nat} : cnt p (s + 1) = cnt p s + (if p s then 1 else 0) := rfl
theorem c_fitOf (hv : isV v) (hw : w 3 = v) (g : GV V) (hV : RV c v V) {i : Nat} (hi : i < 2147483648) : X3_fitOf 71 (nI (fitM V)) (nI i) (enc c j w m n) = some (iI (nth (fitB V) i (2 ^ V 20 5)), enc c j w m n) := by
  have hN := sets_lt g
  refine loop_up (z := fun _ _ _ _ _ => none) (s := X3_fitOf_L5_s) (2 ^ V 20 5) (fun s f => cnt (fitB V) s ≤ i → (∀ s', s' < s → (fitB V s' && cnt (fitB V) s' == i) = false) → f 71 (nI (fitM V)) (nI (i - cnt (fitB V) s)) (nI s) (enc c j w m n) = some (iI (nth (fitB V) i (2 ^ V 20 5)), enc c j w m n)) ?_ ?_ 5000 0 (Nat.zero_le _) (by omega) (Nat.zero_le _) (fun i h => absurd h (Nat.not_lt_zero _))
  · intro s f hs ih hc hn
    unfold X3_fitOf_L5_s X3_fitOf_B37
    rw [cV_eq F71_is, c_sets hv hw g hV, bd_eq, if_neg (by rw [N_le (by omega) (by omega)]; omega), if_neg (by rw [N_lt0 (by omega)]; exact id), fitM_bit g hs, show nI s + 1 = nI (s + 1) from N_add s 1]
    have hc1 := cnt_succ (p := fitB V) (s := s)
    cases e : fitB V s with
    | false =>
      rw [e, if_neg (by simp)] at hc1
      rw [if_pos (show (if false = true then (1 : Int32) else 0) = 0 by decide), show cnt (fitB V) s = cnt (fitB V) (s + 1) by omega]
      refine ih (by omega) fun s' hs' => ?_
      rcases Nat.lt_or_eq_of_le (Nat.le_of_lt_succ hs') with h1 | h1
      · exact hn s' h1
      · subst h1; simp [e]
    | true =>
      rw [e, if_pos rfl] at hc1
      rw [if_neg (show ¬ (if true = true then (1 : Int32) else 0) = 0 by decide)]
      by_cases e2 : cnt (fitB V) s = i
      · rw [if_pos (by rw [e2, Nat.sub_self]; rfl)]
        have : fiF (fun s => fitB V s && cnt (fitB V) s == i) (2 ^ V 20 5) = s := fiF_at (p := fun s => fitB V s && cnt (fitB V) s == i) (by simp [e, e2]) hn hs
        unfold nth
        rw [this, if_neg (by omega), nI_iI]
      · have hz : ¬ nI (i - cnt (fitB V) s) = 0 := by
          rw [show (0 : Int32) = nI 0 from rfl, N_inj (by omega) (by omega)]; omega
        rw [if_neg hz, show nI (i - cnt (fitB V) s) + -1 = nI (i - cnt (fitB V) (s + 1)) by rw [nI_iI, nI_iI, show (-1 : Int32) = iI (-1) from rfl, Z_add]; congr 1; omega]
        refine ih (by omega) fun s' hs' => ?_
        rcases Nat.lt_or_eq_of_le (Nat.le_of_lt_succ hs') with h1 | h1
        · exact hn s' h1
        · subst h1; simp [e, e2]
  · intro f hc hn
    unfold X3_fitOf_L5_s
    rw [cV_eq F71_is, c_sets hv hw g hV, bd_eq, if_pos (by rw [N_le (by omega) (by omega)]; omega)]
    unfold nth
    rw [fiF_none hn, if_pos rfl]; rfl
theorem c_fitOfN (hv : isV v) (hw : w 3 = v) (g : GV V) (hV : RV c v V) {i : Int32} (hi : i < 0) : X3_fitOf 71 (nI (fitM V)) i (enc c j w m n) = some (-1, enc c j w m n) := by
  have hN := sets_lt g
  have hp : 0 < 2 ^ V 20 5 := Nat.two_pow_pos _
  show X3_fitOf_L5_s (X3_fitOf_L5 4999) 71 (nI (fitM V)) i 0 (enc c j w m n) = _
  unfold X3_fitOf_L5_s
  rw [cV_eq F71_is, c_sets hv hw g hV, bd_eq, show (0 : Int32) = nI 0 from rfl, if_neg (by rw [N_le (by omega) (by omega)]; omega), if_pos (show i < nI 0 from hi)]
theorem orS_lt {p : Nat → Bool} {q : Nat} : ∀ N, N ≤ 2 ^ q → orS p N < 2 ^ q
  | 0, _ => Nat.two_pow_pos _
  | N + 1, h => by
    have := orS_lt (p := p) (q := q) N (by omega)
    unfold orS
    split
    · exact Nat.or_lt_two_pow this (by omega)
    · exact this
theorem c_some (hv : isV v) (hw : w 3 = v) (g : GV V) (hV : RV c v V) : X3_boysInSome 71 (nI (fitM V)) (enc c j w m n) = some (nI (orS (fitB V) (2 ^ V 20 5)), enc c j w m n) := by
  have hN := sets_lt g
  refine loop_up (z := fun _ _ _ _ _ => none) (s := X3_boysInSome_L4_s) (2 ^ V 20 5) (fun s f => f 71 (nI (fitM V)) (nI (orS (fitB V) s)) (nI s) (enc c j w m n) = some (nI (orS (fitB V) (2 ^ V 20 5)), enc c j w m n)) ?_ ?_ 5000 0 (Nat.zero_le _) (by omega)
  · intro s f hs ih
    unfold X3_boysInSome_L4_s X3_boysInSome_B24
    rw [cV_eq F71_is, c_sets hv hw g hV, bd_eq, if_neg (by rw [N_le (by omega) (by omega)]; omega), fitM_bit g hs, show nI s + 1 = nI (s + 1) from N_add s 1]
    rw [orS] at ih
    cases e : fitB V s with
    | false =>
      rw [e, if_neg (by simp)] at ih
      rw [if_pos (show (if false = true then (1 : Int32) else 0) = 0 by decide)]; exact ih
    | true =>
      rw [e, if_pos rfl] at ih
      rw [if_neg (show ¬ (if true = true then (1 : Int32) else 0) = 0 by decide), pin_eq, N_or]; exact ih
  · intro f
    unfold X3_boysInSome_L4_s
    rw [cV_eq F71_is, c_sets hv hw g hV, bd_eq, if_pos (by rw [N_le (by omega) (by omega)]; omega)]
theorem c_all (hv : isV v) (hw : w 3 = v) (g : GV V) (hV : RV c v V) : X3_boysInAll 71 (nI (fitM V)) (enc c j w m n) = some (nI (anS (fitB V) (if fitM V = 0 then 0 else 2 ^ V 20 5 - 1) (2 ^ V 20 5)), enc c j w m n) := by
  have hN := sets_lt g
  have hF := fitM_lt g
  have hp : 0 < 2 ^ V 20 5 := Nat.two_pow_pos _
  have Lp : ∀ a, X3_boysInAll_L17 5000 71 (nI (fitM V)) (nI a) 0 (enc c j w m n) = some (nI (anS (fitB V) a (2 ^ V 20 5)), enc c j w m n) := by
    intro a
    refine loop_up (z := fun _ _ _ _ _ => none) (s := X3_boysInAll_L17_s) (2 ^ V 20 5) (fun s f => f 71 (nI (fitM V)) (nI (anS (fitB V) a s)) (nI s) (enc c j w m n) = some (nI (anS (fitB V) a (2 ^ V 20 5)), enc c j w m n)) ?_ ?_ 5000 0 (Nat.zero_le _) (by omega)
    · intro s f hs ih
      unfold X3_boysInAll_L17_s X3_boysInAll_B37
      rw [cV_eq F71_is, c_sets hv hw g hV, bd_eq, if_neg (by rw [N_le (by omega) (by omega)]; omega), fitM_bit g hs, show nI s + 1 = nI (s + 1) from N_add s 1]
      rw [anS] at ih
      cases e : fitB V s with
      | false =>
        rw [e, if_neg (by simp)] at ih
        rw [if_pos (show (if false = true then (1 : Int32) else 0) = 0 by decide)]; exact ih
      | true =>
        rw [e, if_pos rfl] at ih
        rw [if_neg (show ¬ (if true = true then (1 : Int32) else 0) = 0 by decide), pin_eq, N_and]; exact ih
    · intro f
      unfold X3_boysInAll_L17_s
      rw [cV_eq F71_is, c_sets hv hw g hV, bd_eq, if_pos (by rw [N_le (by omega) (by omega)]; omega)]
  unfold X3_boysInAll X3_boysInAll_B14
  by_cases e : fitM V = 0
  · rw [if_pos (by rw [e]; rfl), if_pos e]; exact Lp 0
  · have hz : ¬ nI (fitM V) = 0 := by
      rw [show (0 : Int32) = nI 0 from rfl, N_inj (by omega) (by omega)]; exact e
    rw [if_neg hz, if_neg e, cV_eq F71_is, c_sets hv hw g hV, bd_eq, show (1 : Int32) = nI 1 from rfl, N_sub (by omega)]
    exact Lp _
theorem lst_len {p : Nat → Bool} {f : Nat → Int} : ∀ N, (lst p f N).length ≤ N
  | 0 => Nat.le_refl _
  | N + 1 => by
    have := lst_len (p := p) (f := f) N
    unfold lst
    split
    · rw [List.length_append, List.length_singleton]; omega
    · omega
theorem lst_mem {p : Nat → Bool} {f : Nat → Int} {x : Int} : ∀ {N}, x ∈ lst p f N → ∃ s, s < N ∧ x = f s
  | 0, h => by simp [lst] at h
  | N + 1, h => by
    unfold lst at h
    split at h
    · rw [List.mem_append] at h
      rcases h with h | h
      · obtain ⟨s, hs, e⟩ := lst_mem h; exact ⟨s, by omega, e⟩
      · simp at h; exact ⟨N, by omega, h⟩
    · obtain ⟨s, hs, e⟩ := lst_mem h; exact ⟨s, by omega, e⟩
theorem maxJ {a b : Nat} (ha : a < 1000) (hb : b < 1000) (h : Hp) : J9_max_7cf53 (nI a) (nI b) h = some (nI (max a b), h) := by
  unfold J9_max_7cf53
  by_cases e : a < b
  · rw [if_pos (by rw [N_lt (by omega) (by omega)]; exact e), Nat.max_eq_right (by omega)]
  · rw [if_neg (by rw [N_lt (by omega) (by omega)]; exact e), Nat.max_eq_left (by omega)]
theorem sum01 {p : Nat → Prop} [DecidablePred p] : ∀ N, sumN (fun j => if p j then 1 else 0) N ≤ N
  | 0 => Nat.le_refl _
  | N + 1 => by
    have := sum01 (p := p) N
    rw [sumN]; split <;> omega
theorem mxF_le {a : Nat → Int} {len : Nat} : ∀ i, mxF a len i ≤ len
  | 0 => Nat.zero_le _
  | i + 1 => by
    have h1 := mxF_le (a := a) (len := len) i
    have h2 := sum01 (p := fun j => a i = a j) len
    unfold mxF
    exact Nat.max_le.mpr ⟨h1, h2⟩
theorem c_most {l : List Int} (hl : holdsL c l) (hn : l.length ≤ 16) (hb : ∀ x ∈ l, -2147483648 ≤ x ∧ x < 2147483648) : X3_mostLeft_L84 5000 71 0 0 (enc c j w m n) = some (nI (mostL l), enc c j w m n) := by
  have hg : ∀ i, i < l.length → -2147483648 ≤ l.getD i 0 ∧ l.getD i 0 < 2147483648 := fun i hi => by
    rw [List.getD_eq_getElem?_getD, List.getElem?_eq_getElem hi]; exact hb _ (List.getElem_mem hi)
  refine loop_up (z := fun _ _ _ _ => none) (s := X3_mostLeft_L84_s) l.length (fun i f => f 71 (nI (mxF (fun i => l.getD i 0) l.length i)) (nI i) (enc c j w m n) = some (nI (mostL l), enc c j w m n)) ?_ ?_ 5000 0 (Nat.zero_le _) (by omega)
  · intro i f hi ih
    unfold X3_mostLeft_L84_s
    rw [F71_1, ob_some, T_count sq_T, ob_some, hl.1, if_neg (by rw [N_le (by omega) (by omega)]; omega)]
    have h1 := mxF_le (a := fun i => l.getD i 0) (len := l.length) i
    refine loop_up (z := fun _ _ _ _ _ _ => none) (s := X3_mostLeft_L102_s f) l.length (fun q f' => f' 71 (nI (mxF (fun i => l.getD i 0) l.length i)) (nI i) (nI (sumN (fun j => if l.getD i 0 = l.getD j 0 then 1 else 0) q)) (nI q) (enc c j w m n) = some (nI (mostL l), enc c j w m n)) ?_ ?_ 5000 0 (Nat.zero_le _) (by omega)
    · intro q f' hq ih'
      unfold X3_mostLeft_L102_s X3_mostLeft_B144
      rw [F71_1, ob_some, T_count sq_T, ob_some, hl.1, if_neg (by rw [N_le (by omega) (by omega)]; omega), ob_some, cV_eq (T_is sq_T), T_cell0 sq_T (by omega) (by omega), bd_eq, F71_1, ob_some, cV_eq (T_is sq_T), T_cell0 sq_T (by omega) (by omega), bd_eq, Nat.mul_one, Nat.mul_one, hl.2 i hi, hl.2 q hq, show nI q + 1 = nI (q + 1) from N_add q 1]
      rw [sumN] at ih'
      have hz := Z_inj (hg i hi).1 (hg i hi).2 (hg q hq).1 (hg q hq).2
      by_cases e : l.getD i 0 = l.getD q 0
      · rw [if_pos e] at ih'
        rw [if_pos (hz.mpr e), pin_eq, show nI (sumN (fun j => if l.getD i 0 = l.getD j 0 then 1 else 0) q) + 1 = nI (sumN (fun j => if l.getD i 0 = l.getD j 0 then 1 else 0) q + 1) from N_add _ 1]
        exact ih'
      · rw [if_neg e] at ih'
        rw [if_neg (fun z => e (hz.mp z)), pin_eq, show nI (sumN (fun j => if l.getD i 0 = l.getD j 0 then 1 else 0) q) + 0 = nI (sumN (fun j => if l.getD i 0 = l.getD j 0 then 1 else 0) q + 0) from N_add _ 0]
        exact ih'
    · intro f'
      have h2 := sum01 (p := fun j => l.getD i 0 = l.getD j 0) l.length
      unfold X3_mostLeft_L102_s
      rw [F71_1, ob_some, T_count sq_T, ob_some, hl.1, if_pos (by rw [N_le (by omega) (by omega)]; omega), maxJ (by omega) (by omega), bd_eq, show nI i + 1 = nI (i + 1) from N_add i 1]
      exact ih
  · intro f
    unfold X3_mostLeft_L84_s
    rw [F71_1, ob_some, T_count sq_T, ob_some, hl.1, if_pos (by rw [N_le (by omega) (by omega)]; omega)]
    rfl
theorem c_mostLeft (hv : isV v) (hw : w 3 = v) (g : GV V) (hV : RV c v V) {b : Nat} (hb : b ≤ V 20 2) : ∃ c', X3_mostLeft 71 (nI (fitM V)) (nI b) (enc c j w m n) = some (nI (lefS V b), enc c' j w m n) ∧ fr c c' := by
  have hN := sets_lt g
  have gk := GKT g
  unfold X3_mostLeft
  rw [F71_1, ob_some, T_put sq_T, ob_some]
  refine loop_up (z := fun _ _ _ _ _ => none) (s := X3_mostLeft_L10_s) (2 ^ V 20 5) (fun i f => ∀ c1, fr c c1 → holdsL c1 (lst (fitB V) (sqS V (KT V) b) i) → ∃ c', f 71 (nI (fitM V)) (nI b) (nI i) (enc c1 j w m n) = some (nI (lefS V b), enc c' j w m n) ∧ fr c c') ?_ ?_ 5000 0 (Nat.zero_le _) (by omega) _ (fun y hy => by simp only [va_up]; rw [if_neg (by omega)]) ⟨by simp [va_up, upd, lst]; rfl, fun i hi => by simp [lst] at hi⟩
  · intro i f hi ih c1 f1 l1
    have hV1 : RV c1 v V := hV.fr hv fun y _ _ => f1 y (by omega)
    unfold X3_mostLeft_L10_s X3_mostLeft_B73
    rw [cV_eq F71_is, c_sets hv hw g hV1, bd_eq, if_neg (by rw [N_le (by omega) (by omega)]; omega), fitM_bit g hi, show nI i + 1 = nI (i + 1) from N_add i 1]
    cases e : fitB V i with
    | false =>
      rw [if_pos (show (if false = true then (1 : Int32) else 0) = 0 by decide)]
      refine ih c1 f1 ?_
      rw [lst, e, if_neg (by simp)]; exact l1
    | true =>
      obtain ⟨c2, e2, f2, k2, s2⟩ := c_asTold (c := c1) (j := j) (w := w) (m := m) (n := n) hv hw g hV1 (s := i) (by omega)
      have hV2 : RV c2 v V := hV1.fr hv fun y _ _ => f2 y (by omega)
      obtain ⟨c3, e3, f3, l3⟩ := c_reckon (c := c2) (j := j) (w := w) (m := m) (n := n) hv hw trial_K g gk (GES g i) hV2 k2
      have hV3 : RV c3 v V := hV2.fr hv fun y _ _ => f3 y (by omega)
      have k3 : RK c3 63 V (KT V) (eS V i) := k2.fr (f3 _ (by omega)) (f3 _ (by omega))
      have s3 : RS c3 63 V allS := fun i hi => by rw [f3 63 (by omega)]; exact s2 i hi
      obtain ⟨c4, e4, f4, s4⟩ := c_sail (c := c3) (j := j) (w := w) (m := m) (n := n) hv hw trial_K g gk hV3 k3 s3 l3 (a := 0) (b := b) (Nat.zero_le _) hb (Or.inl rfl)
      have f4' : ∀ y, (y < 60 ∨ 67 < y) → c4 y = c1 y := fun y hy => by rw [f4 y (by omega), f3 y (by omega), f2 y hy]
      have l4 : holdsL c4 (lst (fitB V) (sqS V (KT V) b) i) := ⟨by rw [f4' 72 (by omega)]; exact l1.1, fun q hq => by rw [f4' 73 (by omega)]; exact l1.2 q hq⟩
      have hlen := lst_len (p := fitB V) (f := sqS V (KT V) b) i
      obtain ⟨b1, b2⟩ := sq_lt (K := KT V) g (lS_le g gk i) hb
      obtain ⟨c5, e5, f5, l5⟩ := holdsL_add (c := c4) (j := j) (w := w) (m := m) (n := n) l4 (by omega) (sqS V (KT V) b i)
      rw [if_neg (show ¬ (if true = true then (1 : Int32) else 0) = 0 by decide), cV_eq F71_is, e2, bd_eq, F71_0, ob_some, cVv_eq F59_is, e3, ob_some, F71_0, ob_some, cVv_eq F59_is, show X6_sail 59 63 0 (nI b) (enc c3 j w m n) = _ from e4, ob_some, F71_1, ob_some, F71_0, ob_some, F59_0, ob_some, cV_eq F60_is, c_inSquare s4 b1 b2, bd_eq, cVv_eq (T_is sq_T), show X8_add 72 (iI (sqr (pE V (KT V) (stl V (KT V) (eS V i)) b) (pN V (KT V) (stl V (KT V) (eS V i)) b))) 0 0 0 (enc c4 j w m n) = _ from e5, ob_some]
      refine ih c5 (f1.tr fun y hy => by rw [f5 y (by omega) (by omega), f4' y (by omega)]) ?_
      rw [lst, e, if_pos rfl]; exact l5
  · intro f c1 f1 l1
    have hV1 : RV c1 v V := hV.fr hv fun y _ _ => f1 y (by omega)
    have hlen := lst_len (p := fitB V) (f := sqS V (KT V) b) (2 ^ V 20 5)
    refine ⟨c1, ?_, f1⟩
    unfold X3_mostLeft_L10_s
    rw [cV_eq F71_is, c_sets hv hw g hV1, bd_eq, if_pos (by rw [N_le (by omega) (by omega)]; omega)]
    exact c_most l1 (by omega) fun x hx => by obtain ⟨s, -, e⟩ := lst_mem hx; rw [e]; exact sqS_lt g gk hb
theorem lefS_le (g : GV V) (b : Nat) : lefS V b ≤ 16 := by
  have h1 := mxF_le (a := fun i => (lst (fitB V) (sqS V (KT V) b) (2 ^ V 20 5)).getD i 0) (len := (lst (fitB V) (sqS V (KT V) b) (2 ^ V 20 5)).length) (lst (fitB V) (sqS V (KT V) b) (2 ^ V 20 5)).length
  have h2 := lst_len (p := fitB V) (f := sqS V (KT V) b) (2 ^ V 20 5)
  have h3 := sets_lt g
  exact Nat.le_trans h1 (by omega)
theorem bfx_range {f : Nat → Nat} (hf : ∀ n, f n ≤ 16) : ∀ N, ((bfx f N).1 = -2 ∨ (0 ≤ (bfx f N).1 ∧ (bfx f N).1 < N)) ∧ (bfx f N).2 ≤ 16
  | 0 => ⟨Or.inl rfl, Nat.zero_le _⟩
  | N + 1 => by
    have h := bfx_range hf N
    unfold bfx
    split
    · exact ⟨Or.inr ⟨by simp only; omega, by simp only; omega⟩, hf N⟩
    · refine ⟨?_, h.2⟩
      rcases h.1 with h1 | h1
      · exact Or.inl h1
      · exact Or.inr ⟨h1.1, by omega⟩
theorem c_bestFix (hv : isV v) (hw : w 3 = v) (g : GV V) (hV : RV c v V) : ∃ c', X3_bestFix 71 (nI (fitM V)) (enc c j w m n) = some (iI (if fitM V = 0 then -2 else (bfx (lefS V) (V 20 2 + 1)).1), enc c' j w m n) ∧ fr c c' := by
  have g12 := g.1.2.2.1
  have hF := fitM_lt g
  by_cases e0 : fitM V = 0
  · refine ⟨c, ?_, fr.rf c⟩
    show X3_bestFix_L8_s (X3_bestFix_L8 4999) 71 (nI (fitM V)) (-2) 0 0 (enc c j w m n) = _
    unfold X3_bestFix_L8_s
    rw [if_pos (by rw [e0]; rfl), if_pos e0]; rfl
  have hz : ¬ nI (fitM V) = 0 := by
    rw [show (0 : Int32) = nI 0 from rfl, N_inj (by omega) (by omega)]; exact e0
  rw [if_neg e0]
  refine loop_up (z := fun _ _ _ _ _ _ => none) (s := X3_bestFix_L8_s) (V 20 2 + 1) (fun i f => ∀ c1, fr c c1 → ∃ c', f 71 (nI (fitM V)) (iI (bfx (lefS V) i).1) (nI (bfx (lefS V) i).2) (nI i) (enc c1 j w m n) = some (iI (bfx (lefS V) (V 20 2 + 1)).1, enc c' j w m n) ∧ fr c c') ?_ ?_ 5000 0 (Nat.zero_le _) (by omega) c (fr.rf c)
  · intro i f hi ih c1 f1
    have hV1 : RV c1 v V := hV.fr hv fun y _ _ => f1 y (by omega)
    obtain ⟨c2, e2, f2⟩ := c_mostLeft (c := c1) (j := j) (w := w) (m := m) (n := n) hv hw g hV1 (b := i) (by omega)
    have hr := bfx_range (lefS_le g) i
    have hl := lefS_le g i
    have hz2 : iI (bfx (lefS V) i).1 = -2 ↔ (bfx (lefS V) i).1 = -2 := by
      have h := Z_inj (a := (bfx (lefS V) i).1) (b := -2) (by omega) (by omega) (by omega) (by omega)
      exact h
    have := ih c2 (f1.tr f2)
    rw [bfx] at this
    unfold X3_bestFix_L8_s X3_bestFix_B51 X3_bestFix_B57
    rw [if_neg hz, F71_0, ob_some, F59_3, hw, ob_some, V_2 hv, ob_some, T_count (V_wats hv), ob_some, show c1 (v + 5) 3 = nI (V 20 2) from hV1.1 2 (by omega), if_neg (by rw [N_lt (by omega) (by omega)]; omega), cV_eq F71_is, e2, bd_eq, show nI i + 1 = nI (i + 1) from N_add i 1]
    by_cases e3 : (bfx (lefS V) i).1 = -2
    · rw [if_pos (Or.inl e3)] at this
      rw [if_pos (hz2.mpr e3), nI_iI i]
      exact this
    · rw [if_neg (fun z => e3 (hz2.mp z))]
      by_cases e4 : lefS V i < (bfx (lefS V) i).2
      · rw [if_pos (Or.inr e4)] at this
        rw [if_neg (by rw [N_le (by omega) (by omega)]; omega), nI_iI i]
        exact this
      · rw [if_neg (fun z => z.elim e3 e4)] at this
        rw [if_pos (by rw [N_le (by omega) (by omega)]; omega)]
        exact this
  · intro f c1 f1
    have hV1 : RV c1 v V := hV.fr hv fun y _ _ => f1 y (by omega)
    refine ⟨c1, ?_, f1⟩
    unfold X3_bestFix_L8_s
    rw [if_neg hz, F71_0, ob_some, F59_3, hw, ob_some, V_2 hv, ob_some, T_count (V_wats hv), ob_some, show c1 (v + 5) 3 = nI (V 20 2) from hV1.1 2 (by omega), if_pos (by rw [N_lt (by omega) (by omega)]; omega)]
end
