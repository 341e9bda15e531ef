/-! the reference: sets that fit, fixes -/
section
variable {c : Nat → Nat → Int32} {j : Nat → Nat → Int64} {w : Nat → Nat} {m : Nat → Nat → Int32} {n : Nat → Nat → Int64} {V K : Nat → Nat → Nat} {E L : Nat → Nat} {S : Nat → Bool}
theorem mf_75 {m m' : Nat → Nat → Int32} (h : mf m m') {x : Nat → Int32} (hx : ∀ f, 1 ≤ f → f < 31 → x f = m' 75 f) : mf m (va_up m' 75 x) := ⟨fun y h1 h2 => by rw [vup_ne _ _ (by omega)]; exact h.1 y h1 h2, fun f h1 h2 => by rw [vup_at, hx f h1 h2]; exact h.2 f h1 h2⟩
theorem upd_ne {f : Nat → Int32} {a b : Nat} {x : Int32} (h : b ≠ a) : upd f a x b = f b := by simp [upd, h]
theorem upd_at {f : Nat → Int32} {a : Nat} {x : Int32} : upd f a x a = x := by simp [upd]
theorem m_seek (h : MN m V K) (a : Int32) : ∃ m', X11_seekSets 75 a (enc c j w m n) = some (skF (fitB V) a (2 ^ V 20 5), enc c j w m' n) ∧ mf m m' ∧ m' 75 37 = nI (cnt (fitB V) (2 ^ V 20 5)) ∧ m' 75 38 = nI (orS (fitB V) (2 ^ V 20 5)) ∧ m' 75 39 = nI (if cnt (fitB V) (2 ^ V 20 5) = 0 then 0 else anS (fitB V) (2 ^ V 20 5 - 1) (2 ^ V 20 5)) := by
  have g := h.1
  have hN := sets_lt g
  have hcl := cnt_le (p := fitB V) (2 ^ V 20 5)
  generalize hq : upd (upd (upd (m 75) 37 0) 38 0) 39 (nI (2 ^ V 20 5 - 1)) = x
  have hxf : ∀ f, (f < 37 ∨ 39 < f) → x f = m 75 f := fun f hf => by rw [← hq, upd_ne (by omega), upd_ne (by omega), upd_ne (by omega)]
  have mf0 : mf m (va_up m 75 x) := mf_75 (mf.rf m) fun f h1 h2 => hxf f (by omega)
  have L := loop_up (z := fun _ _ _ _ _ => none) (s := X11_seekSets_L24_s) (2 ^ V 20 5) (fun i f => ∀ m1, mf m m1 → m1 75 37 = nI (cnt (fitB V) i) → m1 75 38 = nI (orS (fitB V) i) → m1 75 39 = nI (anS (fitB V) (2 ^ V 20 5 - 1) i) → ∃ m', f 75 a (skF (fitB V) a i) (nI i) (enc c j w m1 n) = some (skF (fitB V) a (2 ^ V 20 5), enc c j w m' n) ∧ mf m m' ∧ m' 75 37 = nI (cnt (fitB V) (2 ^ V 20 5)) ∧ m' 75 38 = nI (orS (fitB V) (2 ^ V 20 5)) ∧ m' 75 39 = nI (if cnt (fitB V) (2 ^ V 20 5) = 0 then 0 else anS (fitB V) (2 ^ V 20 5 - 1) (2 ^ V 20 5))) ?_ ?_ 5000 0 (Nat.zero_le _) (by omega) (va_up m 75 x) mf0 (by rw [vup_at, ← hq]; rfl) (by rw [vup_at, ← hq]; rfl) (by rw [vup_at, ← hq]; rfl)
  · obtain ⟨m', e', r'⟩ := L
    refine ⟨m', ?_, r'⟩
    unfold X11_seekSets
    rw [P75_37, ob_some, P75_38, ob_some, cV75, m_sets g (h.2.2.1.fr (by rw [vup_ne _ _ (by omega), vup_ne _ _ (by omega)])), bd_eq, P75_39, ob_some, vup_up, vup_up, vup_at, vup_at, show nI (2 ^ V 20 5) - 1 = nI (2 ^ V 20 5 - 1) from by rw [show (1 : Int32) = nI 1 from rfl, N_sub Nat.one_le_two_pow], hq]
    exact e'
  · intro i f hi ih m1 f1 s37 s38 s39
    have h1 := h.mf f1
    obtain ⟨m2, e2, l2, -⟩ := m_wrongBy (c := c) (j := j) (w := w) (m := m1) (n := n) h1 (s := i) (by omega)
    have f2 : mf m m2 := f1.tr l2.mf
    rw [← l2.2 37 (by omega)] at s37
    rw [← l2.2 38 (by omega)] at s38
    rw [← l2.2 39 (by omega)] at s39
    unfold X11_seekSets_L24_s X11_seekSets_B55 X11_seekSets_B85
    rw [cV75, m_sets g h1.2.2.1, bd_eq, if_neg (by rw [N_le (by omega) (by omega)]; omega), cV75, e2, bd_eq, show nI i + 1 = nI (i + 1) from N_add i 1]
    by_cases e : misf V i = -2
    · have eb : fitB V i = true := by unfold fitB; simp [e]
      rw [if_pos ((misf_eq2 g i).mpr e), I75_37, ob_some, s37]
      simp only [ob_some, P75_37, I75_38, P75_38, I75_39, P75_39, vup_up, vup_at]
      generalize hy : upd (upd (upd (m2 75) 37 (nI (cnt (fitB V) i) + 1)) 38 (upd (m2 75) 37 (nI (cnt (fitB V) i) + 1) 38 ||| nI i)) 39 (upd (upd (m2 75) 37 (nI (cnt (fitB V) i) + 1)) 38 (upd (m2 75) 37 (nI (cnt (fitB V) i) + 1) 38 ||| nI i) 39 &&& nI i) = y
      have hyf : ∀ f, (f < 37 ∨ 39 < f) → y f = m2 75 f := fun f hf => by rw [← hy, upd_ne (by omega), upd_ne (by omega), upd_ne (by omega)]
      have := ih (va_up m2 75 y) (mf_75 f2 fun f h1 h2 => hyf f (by omega)) (by
        rw [vup_at, ← hy, upd_ne (by omega), upd_ne (by omega), upd_at, cnt_succ, eb, if_pos rfl]; exact N_add _ 1) (by
        rw [vup_at, ← hy, upd_ne (by omega), upd_at, upd_ne (by omega), s38, N_or, orS, eb, if_pos rfl]) (by
        rw [vup_at, ← hy, upd_at, upd_ne (by omega), upd_ne (by omega), s39, N_and, anS, eb, if_pos rfl])
      by_cases ea : nI (cnt (fitB V) i) = a
      · rw [if_pos ea]
        rw [show skF (fitB V) a (i + 1) = nI i by rw [skF, if_pos ⟨eb, ea⟩]] at this
        exact this
      · rw [if_neg ea]
        rw [show skF (fitB V) a (i + 1) = skF (fitB V) a i by rw [skF, if_neg (fun z => ea z.2)]] at this
        exact this
    · have eb : fitB V i = false := by unfold fitB; simp [e]
      rw [if_neg (fun z => e ((misf_eq2 g i).mp z))]
      have := ih m2 f2 (by rw [s37, cnt_succ, eb]; rfl) (by rw [s38, orS, eb]; rfl) (by rw [s39, anS, eb]; rfl)
      rw [show skF (fitB V) a (i + 1) = skF (fitB V) a i by rw [skF, if_neg (fun z => by rw [eb] at z; exact absurd z.1 (by decide))]] at this
      exact this
  · intro f m1 f1 s37 s38 s39
    have h1 := h.mf f1
    unfold X11_seekSets_L24_s
    rw [cV75, m_sets g h1.2.2.1, bd_eq, if_pos (by rw [N_le (by omega) (by omega)]; omega), I75_37, ob_some, s37]
    by_cases e : cnt (fitB V) (2 ^ V 20 5) = 0
    · rw [if_pos (by rw [e]; rfl), P75_39, ob_some]
      refine ⟨_, rfl, mf_75 f1 fun f h1 h2 => upd_ne (by omega), by rw [vup_at, upd_ne (by omega)]; exact s37, by rw [vup_at, upd_ne (by omega)]; exact s38, by rw [vup_at, upd_at, if_pos e]; rfl⟩
    · rw [if_neg (by rw [show (0 : Int32) = nI 0 from rfl, N_inj (by omega) (by omega)]; exact e)]
      exact ⟨m1, rfl, f1, s37, s38, by rw [s39, if_neg e]⟩
theorem m_mostL {l : List Int} (hl : HL m l) (hn : l.length ≤ 16) (hb : ∀ x ∈ l, -2147483648 ≤ x ∧ x < 2147483648) : X11_leavesOf_L50 5000 75 (nI l.length) 0 0 (enc c j w m n) = some (nI (mostL l), enc c j w m n) := by
  have hg : ∀ i, i < l.length → -2147483648 ≤ l.getD i 0 ∧ l.getD i 0 < 2147483648 := fun i hi => hb _ (getD_mem hi)
  refine loop_up (z := fun _ _ _ _ _ => none) (s := X11_leavesOf_L50_s) l.length (fun i f => f 75 (nI l.length) (nI (mxF (fun i => l.getD i 0) l.length i)) (nI i) (enc c j w m n) = some (nI (mostL l), enc c j w m n)) ?_ ?_ 5000 0 (Nat.zero_le _) (by omega)
  · intro i f hi ih
    unfold X11_leavesOf_L50_s
    rw [if_neg (by rw [N_le (by omega) (by omega)]; omega)]
    have h1 := mxF_le (a := fun i => l.getD i 0) (len := l.length) i
    refine loop_up (z := fun _ _ _ _ _ _ _ => none) (s := X11_leavesOf_L62_s f) l.length (fun q f' => f' 75 (nI l.length) (nI (mxF (fun i => l.getD i 0) l.length i)) (nI i) (nI (sumN (fun j => if l.getD i 0 = l.getD j 0 then 1 else 0) q)) (nI q) (enc c j w m n) = some (nI (mostL l), enc c j w m n)) ?_ ?_ 5000 0 (Nat.zero_le _) (by omega)
    · intro q f' hq ih'
      unfold X11_leavesOf_L62_s X11_leavesOf_B92
      rw [if_neg (by rw [N_le (by omega) (by omega)]; omega), R75_34, ob_some, M92 (by omega), ob_some, ob_some, M92 (by omega), ob_some, hl i hi, hl q hq, show nI q + 1 = nI (q + 1) from N_add q 1]
      rw [sumN] at ih'
      have hz := Z_inj (hg i hi).1 (hg i hi).2 (hg q hq).1 (hg q hq).2
      by_cases e : l.getD i 0 = l.getD q 0
      · rw [if_pos e] at ih'
        rw [if_pos (hz.mpr e), pin_eq, show nI (sumN (fun j => if l.getD i 0 = l.getD j 0 then 1 else 0) q) + 1 = nI (sumN (fun j => if l.getD i 0 = l.getD j 0 then 1 else 0) q + 1) from N_add _ 1]
        exact ih'
      · rw [if_neg e] at ih'
        rw [if_neg (fun z => e (hz.mp z)), pin_eq, show nI (sumN (fun j => if l.getD i 0 = l.getD j 0 then 1 else 0) q) + 0 = nI (sumN (fun j => if l.getD i 0 = l.getD j 0 then 1 else 0) q + 0) from N_add _ 0]
        exact ih'
    · intro f'
      have h2 := sum01 (p := fun j => l.getD i 0 = l.getD j 0) l.length
      unfold X11_leavesOf_L62_s X11_leavesOf_B113
      rw [if_pos (by rw [N_le (by omega) (by omega)]; omega), show nI i + 1 = nI (i + 1) from N_add i 1]
      rw [mxF] at ih
      by_cases e : sumN (fun j => if l.getD i 0 = l.getD j 0 then 1 else 0) l.length ≤ mxF (fun i => l.getD i 0) l.length i
      · rw [if_pos (by rw [N_le (by omega) (by omega)]; exact e)]
        rw [Nat.max_eq_left e] at ih; exact ih
      · rw [if_neg (by rw [N_le (by omega) (by omega)]; exact e)]
        rw [Nat.max_eq_right (by omega)] at ih; exact ih
  · intro f
    unfold X11_leavesOf_L50_s
    rw [if_pos (by rw [N_le (by omega) (by omega)]; omega)]
    rfl
theorem m_leavesOf (h : MN m V K) {b : Nat} (hb : b ≤ V 20 2) : ∃ m', X11_leavesOf 75 (nI b) (enc c j w m n) = some (nI (lefS V b), enc c j w m' n) ∧ mf m m' ∧ m' 75 40 = m 75 40 := by
  have g := h.1
  have hN := sets_lt g
  have gk := GKT g
  refine loop_up (z := fun _ _ _ _ _ => none) (s := X11_leavesOf_L4_s) (2 ^ V 20 5) (fun i f => ∀ m1, mf m m1 → m1 75 40 = m 75 40 → HL m1 (lst (fitB V) (sqS V (KT V) b) i) → ∃ m', f 75 (nI b) (nI (lst (fitB V) (sqS V (KT V) b) i).length) (nI i) (enc c j w m1 n) = some (nI (lefS V b), enc c j w m' n) ∧ mf m m' ∧ m' 75 40 = m 75 40) ?_ ?_ 5000 0 (Nat.zero_le _) (by omega) m (mf.rf m) rfl (fun q hq => by simp [lst] at hq)
  · intro i f hi ih m1 f1 s1 l1
    have h1 := h.mf f1
    obtain ⟨m2, e2, l2, r2⟩ := m_wrongBy (c := c) (j := j) (w := w) (m := m1) (n := n) h1 (s := i) (by omega)
    have f2 : mf m m2 := f1.tr l2.mf
    have s2 : m2 75 40 = m 75 40 := by rw [l2.2 40 (by omega)]; exact s1
    have l2' : HL m2 (lst (fitB V) (sqS V (KT V) b) i) := fun q hq => by rw [l2.1 92 (by omega) (by omega)]; exact l1 q hq
    have hlen := lst_len (p := fitB V) (f := sqS V (KT V) b) i
    have sq : X11_squareOf 75 (nI b) (enc c j w m2 n) = some (iI (sqS V (KT V) b i), enc c j w m2 n) := m_squareOf g (lS_le g gk i) r2 (Nat.le_refl _) hb
    unfold X11_leavesOf_L4_s X11_leavesOf_B39
    rw [cV75, m_sets g h1.2.2.1, bd_eq, if_neg (by rw [N_le (by omega) (by omega)]; omega), cV75, e2, bd_eq, show nI i + 1 = nI (i + 1) from N_add i 1]
    by_cases e : misf V i = -2
    · have eb : fitB V i = true := by unfold fitB; simp [e]
      rw [if_pos ((misf_eq2 g i).mpr e), R75_34, ob_some, cV75, sq, bd_eq, S92 (by omega), ob_some, show nI (lst (fitB V) (sqS V (KT V) b) i).length + 1 = nI ((lst (fitB V) (sqS V (KT V) b) i).length + 1) from N_add _ 1]
      have := ih (va_up m2 92 (upd (m2 92) (lst (fitB V) (sqS V (KT V) b) i).length (iI (sqS V (KT V) b i)))) (mf_92 f2 _) (by rw [vup_ne _ _ (by omega)]; exact s2) (by rw [lst, eb, if_pos rfl]; exact HL_add l2' _)
      rw [lst, eb, if_pos rfl, List.length_append] at this
      exact this
    · have eb : fitB V i = false := by unfold fitB; simp [e]
      rw [if_neg (fun z => e ((misf_eq2 g i).mp z))]
      have := ih m2 f2 s2 (by rw [lst, eb, if_neg (by decide)]; exact l2')
      rw [lst, eb, if_neg (by decide)] at this
      exact this
  · intro f m1 f1 s1 l1
    have h1 := h.mf f1
    have hlen := lst_len (p := fitB V) (f := sqS V (KT V) b) (2 ^ V 20 5)
    refine ⟨m1, ?_, f1, s1⟩
    unfold X11_leavesOf_L4_s
    rw [cV75, m_sets g h1.2.2.1, bd_eq, if_pos (by rw [N_le (by omega) (by omega)]; omega)]
    exact m_mostL l1 (by omega) fun x hx => by obtain ⟨s, -, e⟩ := lst_mem hx; rw [e]; exact sqS_lt g gk hb
theorem lst_nil {p : Nat → Bool} {f : Nat → Int} : ∀ {N : Nat}, (∀ i, i < N → p i = false) → lst p f N = []
  | 0, _ => rfl
  | N + 1, h => by rw [lst, h N (by omega), if_neg (by decide)]; exact lst_nil fun i hi => h i (by omega)
theorem lst_pos {p : Nat → Bool} {f : Nat → Int} {i : Nat} (hp : p i = true) : ∀ {N : Nat}, i < N → 0 < (lst p f N).length
  | 0, h => absurd h (Nat.not_lt_zero _)
  | N + 1, h => by
    rw [lst]
    by_cases e : i = N
    · subst e; rw [hp, if_pos rfl, List.length_append]; simp
    · have := lst_pos (f := f) hp (N := N) (by omega)
      split
      · rw [List.length_append]; omega
      · exact this
theorem sum_pos {f : Nat → Nat} {i : Nat} (hp : 0 < f i) : ∀ {N : Nat}, i < N → 0 < sumN f N
  | 0, h => absurd h (Nat.not_lt_zero _)
  | N + 1, h => by
    rw [sumN]
    by_cases e : i = N
    · subst e; omega
    · have := sum_pos hp (N := N) (by omega); omega
theorem mxF_pos {a : Nat → Int} {len : Nat} : ∀ {i : Nat}, 0 < i → i ≤ len → 0 < mxF a len i
  | 0, h, _ => absurd h (Nat.not_lt_zero _)
  | i + 1, _, h => by
    rw [mxF]
    have : 0 < sumN (fun j => if a i = a j then 1 else 0) len := sum_pos (i := i) (by simp) (by omega)
    have h2 := Nat.le_max_right (mxF a len i) (sumN (fun j => if a i = a j then 1 else 0) len)
    omega
theorem lefS_zero (b : Nat) : fitM V = 0 → lefS V b = 0 := by
  intro e
  have h := fm_zero.mp e
  unfold lefS
  rw [lst_nil h]; rfl
theorem lefS_pos (b : Nat) : fitM V ≠ 0 → 0 < lefS V b := by
  intro e
  have h : ∃ i, i < 2 ^ V 20 5 ∧ fitB V i = true := by
    by_cases q : ∃ i, i < 2 ^ V 20 5 ∧ fitB V i = true
    · exact q
    · exact absurd (fm_zero.mpr fun i hi => by
        cases hb : fitB V i with
        | false => rfl
        | true => exact absurd ⟨i, hi, hb⟩ q) e
  obtain ⟨i, hi, hp⟩ := h
  have := lst_pos (f := sqS V (KT V) b) hp hi
  exact mxF_pos this (Nat.le_refl _)
theorem bfx_neg {f : Nat → Nat} : ∀ N, 0 < N → (bfx f N).1 ≠ -2
  | 0, h => absurd h (Nat.not_lt_zero _)
  | N + 1, _ => by
    unfold bfx
    split
    · simp only; omega
    · rename_i h; exact fun z => h (Or.inl z)
theorem bfx_val {f : Nat → Nat} : ∀ N, 0 < N → (bfx f N).2 = f (bfx f N).1.toNat
  | 0, h => absurd h (Nat.not_lt_zero _)
  | N + 1, _ => by
    unfold bfx
    split
    · simp
    · rename_i h
      cases N with
      | zero => exact absurd (Or.inl rfl) h
      | succ N => exact bfx_val (N + 1) (by omega)
theorem m_fixOf (h : MN m V K) : ∃ m', X11_fixOf 75 (enc c j w m n) = some (iI (if fitM V = 0 then -2 else (bfx (lefS V) (V 20 2 + 1)).1), enc c j w m' n) ∧ mf m m' ∧ m' 75 40 = iI (if fitM V = 0 then -2 else ((lefS V (bfx (lefS V) (V 20 2 + 1)).1.toNat : Nat) : Int)) := by
  have g := h.1
  have g12 := g.1.2.2.1
  have mf0 : mf m (va_up m 75 (upd (m 75) 40 (-2))) := mf_75 (mf.rf m) fun f h1 h2 => upd_ne (by omega)
  have s0 : va_up m 75 (upd (m 75) 40 (-2)) 75 40 = -2 := by rw [vup_at, upd_at]
  unfold X11_fixOf
  rw [P75_40, ob_some]
  by_cases e0 : fitM V = 0
  · rw [if_pos e0, if_pos e0]
    refine loop_up (z := fun _ _ _ _ => none) (s := X11_fixOf_L11_s) (V 20 2 + 1) (fun i f => ∀ m1, mf m m1 → m1 75 40 = -2 → ∃ m', f 75 (-2) (nI i) (enc c j w m1 n) = some (iI (-2), enc c j w m' n) ∧ mf m m' ∧ m' 75 40 = iI (-2)) ?_ ?_ 5000 0 (Nat.zero_le _) (by omega) _ mf0 s0
    · intro i f hi ih m1 f1 s1
      have h1 := h.mf f1
      obtain ⟨m2, e2, f2, t2⟩ := m_leavesOf (c := c) (j := j) (w := w) (m := m1) (n := n) h1 (b := i) (by omega)
      unfold X11_fixOf_L11_s X11_fixOf_B53
      rw [R75_15, ob_some, rW h1.2.2.1, ob_some, if_neg (by rw [N_lt (by omega) (by omega)]; omega), cV75, e2, bd_eq, lefS_zero i e0, if_pos (show nI 0 = 0 from rfl), show nI i + 1 = nI (i + 1) from N_add i 1]
      exact ih m2 (f1.tr f2) (by rw [t2]; exact s1)
    · intro f m1 f1 s1
      refine ⟨m1, ?_, f1, s1⟩
      unfold X11_fixOf_L11_s
      rw [R75_15, ob_some, rW (h.mf f1).2.2.1, ob_some, if_pos (by rw [N_lt (by omega) (by omega)]; omega)]
      rfl
  · rw [if_neg e0, if_neg e0]
    refine loop_up (z := fun _ _ _ _ => none) (s := X11_fixOf_L11_s) (V 20 2 + 1) (fun i f => ∀ m1, mf m m1 → (i ≠ 0 → m1 75 40 = nI (bfx (lefS V) i).2) → ∃ m', f 75 (iI (bfx (lefS V) i).1) (nI i) (enc c j w m1 n) = some (iI (bfx (lefS V) (V 20 2 + 1)).1, enc c j w m' n) ∧ mf m m' ∧ m' 75 40 = iI ((lefS V (bfx (lefS V) (V 20 2 + 1)).1.toNat : Nat) : Int)) ?_ ?_ 5000 0 (Nat.zero_le _) (by omega) _ mf0 (fun z => absurd rfl z)
    · intro i f hi ih m1 f1 s1
      have h1 := h.mf f1
      obtain ⟨m2, e2, f2, t2⟩ := m_leavesOf (c := c) (j := j) (w := w) (m := m1) (n := n) h1 (b := i) (by omega)
      have hp := lefS_pos i e0
      have hl := lefS_le g i
      have hr := bfx_range (lefS_le g) i
      have hz2 : iI (bfx (lefS V) i).1 < 0 ↔ (bfx (lefS V) i).1 < 0 := Z_lt (b := 0) (by omega) (by omega) (by omega) (by omega)
      have take : ∃ m', X11_fixOf_B46 f 75 (nI i) (nI (lefS V i)) (enc c j w m2 n) = some (iI (bfx (lefS V) (V 20 2 + 1)).1, enc c j w m' n) ∧ mf m m' ∧ m' 75 40 = iI ((lefS V (bfx (lefS V) (V 20 2 + 1)).1.toNat : Nat) : Int) ∨ ¬ ((bfx (lefS V) i).1 = -2 ∨ lefS V i < (bfx (lefS V) i).2) := by
        by_cases e3 : (bfx (lefS V) i).1 = -2 ∨ lefS V i < (bfx (lefS V) i).2
        · have := ih (va_up m2 75 (upd (m2 75) 40 (nI (lefS V i)))) (mf_75 (f1.tr f2) fun f h1 h2 => upd_ne (by omega)) (fun _ => by rw [vup_at, upd_at, bfx, if_pos e3])
          rw [bfx, if_pos e3] at this
          obtain ⟨m', e', r'⟩ := this
          refine ⟨m', Or.inl ⟨?_, r'⟩⟩
          unfold X11_fixOf_B46 X11_fixOf_B53
          rw [P75_40, ob_some, show nI i + 1 = nI (i + 1) from N_add i 1, nI_iI i]
          exact e'
        · exact ⟨m, Or.inr e3⟩
      have skip : (bfx (lefS V) i).1 ≠ -2 → ¬ lefS V i < (bfx (lefS V) i).2 → ∃ m', X11_fixOf_B53 f 75 (iI (bfx (lefS V) i).1) (nI i) (enc c j w m2 n) = some (iI (bfx (lefS V) (V 20 2 + 1)).1, enc c j w m' n) ∧ mf m m' ∧ m' 75 40 = iI ((lefS V (bfx (lefS V) (V 20 2 + 1)).1.toNat : Nat) : Int) := by
        intro n1 n2
        have n3 : ¬ ((bfx (lefS V) i).1 = -2 ∨ lefS V i < (bfx (lefS V) i).2) := fun z => z.elim n1 n2
        have hi0 : i ≠ 0 := by intro z; subst z; exact n1 rfl
        have := ih m2 (f1.tr f2) (fun _ => by rw [t2, s1 hi0, bfx, if_neg n3])
        rw [bfx, if_neg n3] at this
        unfold X11_fixOf_B53
        rw [show nI i + 1 = nI (i + 1) from N_add i 1]
        exact this
      unfold X11_fixOf_L11_s
      rw [R75_15, ob_some, rW h1.2.2.1, ob_some, if_neg (by rw [N_lt (by omega) (by omega)]; omega), cV75, e2, bd_eq, if_neg (by rw [show (0 : Int32) = nI 0 from rfl, N_inj (by omega) (by omega)]; omega)]
      by_cases e3 : (bfx (lefS V) i).1 = -2
      · rw [if_pos (hz2.mpr (by omega))]
        obtain ⟨m', z | z⟩ := take
        · exact ⟨m', z⟩
        · exact absurd (Or.inl e3) z
      · have hi0 : i ≠ 0 := by intro z; subst z; exact e3 rfl
        have h0 : ¬ (bfx (lefS V) i).1 < 0 := by rcases hr.1 with q | q <;> omega
        rw [if_neg (fun z => h0 (hz2.mp z)), I75_40, ob_some, t2, s1 hi0]
        by_cases e4 : lefS V i < (bfx (lefS V) i).2
        · rw [if_pos (by rw [N_lt (by omega) (by omega)]; exact e4)]
          obtain ⟨m', z | z⟩ := take
          · exact ⟨m', z⟩
          · exact absurd (Or.inr e4) z
        · rw [if_neg (by rw [N_lt (by omega) (by omega)]; exact e4)]
          exact skip e3 e4
    · intro f m1 f1 s1
      refine ⟨m1, ?_, f1, ?_⟩
      · unfold X11_fixOf_L11_s
        rw [R75_15, ob_some, rW (h.mf f1).2.2.1, ob_some, if_pos (by rw [N_lt (by omega) (by omega)]; omega)]
      · rw [s1 (by omega), nI_iI, bfx_val _ (by omega)]
end
