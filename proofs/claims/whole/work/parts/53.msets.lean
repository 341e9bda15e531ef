/-! the reference: sets of unsure boys -/
theorem any_mem {l : List Int} {x : Int} : ((List.range l.length).any fun q => l.getD q 0 == x) = true ↔ x ∈ l := by
  rw [List.any_eq_true, List.mem_iff_getElem]
  constructor
  · rintro ⟨q, hq, e⟩
    have hq' := List.mem_range.mp hq
    refine ⟨q, hq', ?_⟩
    simpa [List.getD_eq_getElem?_getD, hq'] using e
  · rintro ⟨q, hq, e⟩
    exact ⟨q, List.mem_range.mpr hq, by simp [List.getD_eq_getElem?_getD, hq, e]⟩
def HL (m : Nat → Nat → Int32) (l : List Int) : Prop := ∀ q, q < l.length → m 92 q = iI (l.getD q 0)
theorem HL_add {m : Nat → Nat → Int32} {l : List Int} (h : HL m l) (x : Int) : HL (va_up m 92 (upd (m 92) l.length (iI x))) (l ++ [x]) := by
  intro q hq
  rw [List.length_append] at hq
  simp only [va_up, if_true, upd]
  by_cases e : q = l.length
  · subst e; rw [if_pos rfl]; simp [List.getD_eq_getElem?_getD]
  · have hq2 : q < l.length := by simp at hq; omega
    rw [if_neg e, h q hq2]
    simp [List.getD_eq_getElem?_getD, List.getElem?_append_left hq2]
theorem getD_mem {l : List Int} {q : Nat} (h : q < l.length) : l.getD q 0 ∈ l := by
  rw [List.getD_eq_getElem?_getD, List.getElem?_eq_getElem h]; exact List.getElem_mem h
theorem mf_92 {m m' : Nat → Nat → Int32} (h : mf m m') (x : Nat → Int32) : mf m (va_up m' 92 x) := ⟨fun y h1 h2 => by rw [vup_ne _ _ (by omega)]; exact h.1 y h1 h2, fun f h1 h2 => by rw [vup_ne _ _ (by omega)]; exact h.2 f h1 h2⟩
def skF (p : Nat → Bool) (a : Int32) : Nat → Int32
  | 0 => -1
  | i + 1 => if p i = true ∧ nI (cnt p i) = a then nI i else skF p a i
theorem cnt_mono {p : Nat → Bool} {a : Nat} : ∀ b, a ≤ b → cnt p a ≤ cnt p b
  | 0, h => by have : a = 0 := by omega
               subst this; exact Nat.le_refl _
  | b + 1, h => by
    rcases Nat.lt_or_eq_of_le h with h1 | h1
    · have := cnt_mono (p := p) (a := a) b (by omega)
      rw [cnt_succ]; omega
    · subst h1; exact Nat.le_refl _
theorem cnt_le {p : Nat → Bool} : ∀ b, cnt p b ≤ b
  | 0 => Nat.le_refl _
  | b + 1 => by have := cnt_le (p := p) b; rw [cnt_succ]; split <;> omega
theorem fiF_past {p : Nat → Bool} {i : Nat} : ∀ {N : Nat}, fiF (fun s => p s && cnt p s == i) N ≠ -2 → i < cnt p N
  | 0, h => absurd rfl h
  | N + 1, h => by
    rw [cnt_succ]
    unfold fiF at h
    by_cases e : fiF (fun s => p s && cnt p s == i) N = -2
    · rw [if_pos e] at h
      by_cases e2 : (p N && cnt p N == i) = true
      · simp at e2; rw [e2.1, e2.2]; simp
      · rw [if_neg e2] at h; exact absurd rfl h
    · have := fiF_past e; omega
theorem skF_nth {p : Nat → Bool} {i : Nat} (hi : i < 2147483648) : ∀ {N : Nat}, N < 2147483648 → skF p (nI i) N = iI (nth p i N)
  | 0, _ => rfl
  | N + 1, hN => by
    have hc := cnt_le (p := p) N
    unfold skF
    by_cases e : p N = true ∧ nI (cnt p N) = nI i
    · rw [if_pos e]
      have e2 := (N_inj (by omega) hi).mp e.2
      have e3 : fiF (fun s => p s && cnt p s == i) N = -2 := by
        by_cases h : fiF (fun s => p s && cnt p s == i) N = -2
        · exact h
        · have := fiF_past h; omega
      have e4 : fiF (fun s => p s && cnt p s == i) (N + 1) = N := by
        rw [fiF, if_pos e3, if_pos (by simp [e.1, e2])]
      unfold nth
      rw [e4, if_neg (by omega), nI_iI]
    · rw [if_neg e, skF_nth hi (N := N) (by omega)]
      have e2 : ¬ (p N && cnt p N == i) = true := by
        intro h; simp at h; exact e ⟨h.1, by rw [h.2]⟩
      have e4 : fiF (fun s => p s && cnt p s == i) (N + 1) = fiF (fun s => p s && cnt p s == i) N := by
        rw [fiF]
        by_cases h : fiF (fun s => p s && cnt p s == i) N = -2
        · rw [if_pos h, if_neg e2, h]
        · rw [if_neg h]
      unfold nth
      rw [e4]
section
variable {c : Nat → Nat → Int32} {j : Nat → Nat → Int64} {w : Nat → Nat} {m : Nat → Nat → Int32} {n : Nat → Nat → Int64} {V K : Nat → Nat → Nat} {E L : Nat → Nat} {S : Nat → Bool}
theorem m_canBeL (h : MN m V K) {b : Nat} (hb : b ≤ V 20 2) : ∃ m', X11_canBe_L26 5000 75 (nI b) 0 0 (enc c j w m n) = some (nI (dl (sqS V K b) (2 ^ V 20 5)).length, enc c j w m' n) ∧ mf m m' := by
  have g := h.1
  have gk := h.2.1
  have hN := sets_lt g
  refine loop_up (z := fun _ _ _ _ _ => none) (s := X11_canBe_L26_s) (2 ^ V 20 5) (fun i f => ∀ m1, mf m m1 → HL m1 (dl (sqS V K b) i) → ∃ m', f 75 (nI b) (nI (dl (sqS V K b) i).length) (nI i) (enc c j w m1 n) = some (nI (dl (sqS V K b) (2 ^ V 20 5)).length, enc c j w m' n) ∧ mf m m') ?_ ?_ 5000 0 (Nat.zero_le _) (by omega) m (mf.rf m) (fun q hq => by simp [dl] at hq)
  · intro i f hi ih m1 f1 l1
    have h1 := h.mf f1
    obtain ⟨m2, m3, e2, e3, l2, l3, r3⟩ := m_tryS (c := c) (j := j) (w := w) (m := m1) (n := n) h1 (s := i) (by omega)
    have hlen := dl_len (f := sqS V K b) i
    have hbd : ∀ x ∈ dl (sqS V K b) i, -2147483648 ≤ x ∧ x < 2147483648 := fun x hx => by obtain ⟨s, hs, e⟩ := dl_mem hx; rw [e]; exact sqS_lt g gk hb
    have hx := sqS_lt (s := i) g gk hb
    have l3' : HL m3 (dl (sqS V K b) i) := fun q hq => by rw [l3.1 92 (by omega) (by omega)]; exact l1 q hq
    have sq : X11_squareOf 75 (nI b) (enc c j w m3 n) = some (iI (sqS V K b i), enc c j w m3 n) := m_squareOf g (lS_le g gk i) r3 (Nat.le_refl _) hb
    have f3 : mf m m3 := f1.tr l3.mf
    unfold X11_canBe_L26_s
    rw [cV75, m_sets g h1.2.2.1, bd_eq, if_neg (by rw [N_le (by omega) (by omega)]; omega), R75_19, ob_some, cVv75, e2, ob_some, R75_15, ob_some, rW (h1.mf l2.mf).2.2.1, ob_some, cVv75, e3, ob_some]
    generalize hl : dl (sqS V K b) i = l at *
    generalize hxx : sqS V K b i = x at *
    have I : ∀ q k, k ≤ l.length → l.length - k < q → X11_canBe_L59 f q 75 (nI b) (nI l.length) (nI i) (if ((List.range k).any fun q => l.getD q 0 == x) then (0 : Int32) else 1) (nI k) (enc c j w m3 n) = (if x ∈ l then f 75 (nI b) (nI l.length) (nI (i + 1)) (enc c j w m3 n) else f 75 (nI b) (nI (l.length + 1)) (nI (i + 1)) (enc c j w (va_up m3 92 (upd (m3 92) l.length (iI x))) n)) := by
      refine loop_up (z := fun _ _ _ _ _ _ _ => none) (s := X11_canBe_L59_s f) l.length (fun k f' => f' 75 (nI b) (nI l.length) (nI i) (if ((List.range k).any fun q => l.getD q 0 == x) then (0 : Int32) else 1) (nI k) (enc c j w m3 n) = (if x ∈ l then f 75 (nI b) (nI l.length) (nI (i + 1)) (enc c j w m3 n) else f 75 (nI b) (nI (l.length + 1)) (nI (i + 1)) (enc c j w (va_up m3 92 (upd (m3 92) l.length (iI x))) n))) ?_ ?_
      · intro k f' hk ih'
        unfold X11_canBe_L59_s X11_canBe_B89 X11_canBe_B90
        rw [if_neg (by rw [N_le (by omega) (by omega)]; omega), show nI k + 1 = nI (k + 1) from N_add k 1]
        rw [show ((List.range (k + 1)).any fun q => l.getD q 0 == x) = (((List.range k).any fun q => l.getD q 0 == x) || (l.getD k 0 == x)) by simp [List.range_succ]] at ih'
        cases e : ((List.range k).any fun q => l.getD q 0 == x) with
        | true =>
          rw [e, Bool.true_or] at ih'
          rw [if_pos (show (if true = true then (0 : Int32) else 1) = 0 by decide)]
          exact ih'
        | false =>
          rw [e, Bool.false_or] at ih'
          have hb2 := hbd _ (getD_mem hk)
          rw [if_neg (show ¬ (if false = true then (0 : Int32) else 1) = 0 by decide), R75_34, ob_some, M92 (by omega), ob_some, l3' k hk, cV75, sq, bd_eq]
          by_cases e2 : l.getD k 0 = x
          · rw [if_pos (by rw [e2])]
            rw [show (l.getD k 0 == x) = true by simpa using e2] at ih'
            exact ih'
          · rw [if_neg (fun z => e2 ((Z_inj hb2.1 hb2.2 hx.1 hx.2).mp z))]
            rw [show (l.getD k 0 == x) = false by simpa using e2] at ih'
            exact ih'
      · intro f'
        unfold X11_canBe_L59_s X11_canBe_B120
        rw [if_pos (by rw [N_le (by omega) (by omega)]; omega)]
        by_cases e : x ∈ l
        · rw [if_pos e, any_mem.mpr e, if_pos (show (if true = true then (0 : Int32) else 1) = 0 by decide), show nI i + 1 = nI (i + 1) from N_add i 1]
        · have e2 : ((List.range l.length).any fun q => l.getD q 0 == x) = false := by
            rw [Bool.eq_false_iff]; exact fun z => e (any_mem.mp z)
          rw [if_neg e, e2, if_neg (show ¬ (if false = true then (0 : Int32) else 1) = 0 by decide), R75_34, ob_some, cV75, sq, bd_eq, S92 (by omega), ob_some, show nI i + 1 = nI (i + 1) from N_add i 1, show nI l.length + 1 = nI (l.length + 1) from N_add _ 1]
    have I0 := I 5000 0 (Nat.zero_le _) (by omega)
    rw [show ((List.range 0).any fun q => l.getD q 0 == x) = false from rfl] at I0
    rw [show X11_canBe_L59 f 5000 75 (nI b) (nI l.length) (nI i) 1 0 (enc c j w m3 n) = _ from I0]
    have hd : dl (sqS V K b) (i + 1) = if x ∈ l then l else l ++ [x] := by rw [dl, hl, hxx]
    by_cases e : x ∈ l
    · rw [if_pos e] at hd ⊢
      have := ih m3 f3 (by rw [hd]; exact l3')
      rw [hd] at this; exact this
    · rw [if_neg e] at hd ⊢
      have := ih _ (mf_92 f3 _) (by rw [hd]; exact HL_add l3' x)
      rw [hd, List.length_append] at this; exact this
  · intro f m1 f1 l1
    refine ⟨m1, ?_, f1⟩
    unfold X11_canBe_L26_s
    rw [cV75, m_sets g (h.mf f1).2.2.1, bd_eq, if_pos (by rw [N_le (by omega) (by omega)]; omega)]
theorem MK_put (hK : MK m 85 0 V K) (g : GV V) {k q : Nat} (hk : k < V 20 2) : MK (va_up m 85 (upd (m 85) k (nI q))) 85 0 V (KC K k q) := by
  have g12 := g.1.2.2.1
  obtain ⟨k1, M, hM, k2, k3⟩ := hK
  refine ⟨fun i hi => ?_, M, hM, ?_, fun i hi => ?_⟩
  · rw [vup_at]
    obtain ⟨q1, q2⟩ := k1 i hi
    refine ⟨?_, ?_⟩
    · unfold upd KC
      by_cases e : i = k
      · subst e; rw [if_pos (by omega), if_pos ⟨rfl, rfl⟩]
      · rw [if_neg (by omega), if_neg (fun z => e z.2)]; exact q1
    · unfold upd KC
      rw [if_neg (by omega), if_neg (by omega)]; exact q2
  · rw [vup_at]; unfold upd; rw [if_neg (by omega)]; exact k2
  · rw [k3 i hi]; unfold KC; rw [if_neg (by omega)]
theorem m_perils0 (h : MN m V K) : ∃ m', X11_perilsBy 75 (-1) 0 (enc c j w m n) = some (nI (perS V K (2 ^ V 20 5)), enc c j w m' n) ∧ mf m m' := by
  have g := h.1
  have gk := h.2.1
  have hN := sets_lt g
  refine loop_up (z := fun _ _ _ _ _ _ => none) (s := X11_perilsBy_L5_s) (2 ^ V 20 5) (fun i f => ∀ m1, mf m m1 → ∃ m', f 75 (-1) 0 (nI (perS V K i)) (nI i) (enc c j w m1 n) = some (nI (perS V K (2 ^ V 20 5)), enc c j w m' n) ∧ mf m m') ?_ ?_ 5000 0 (Nat.zero_le _) (by omega) m (mf.rf m)
  · intro i f hi ih m1 f1
    have h1 := h.mf f1
    obtain ⟨m2, e2, l2, -, c2, d2, k2, p2⟩ := m_layS (c := c) (j := j) (w := w) (m := m1) (n := n) h1 (s := i) (by omega)
    have hV2 := (h1.mf l2.mf).2.2.1
    obtain ⟨m3, e3, l3, r3⟩ := m_sailX (c := c) (j := j) (w := w) (m := m2) (n := n) g gk (GES g i) hV2 k2 p2 c2 d2 (Nat.le_refl _)
    obtain ⟨m', e', f'⟩ := ih m3 (f1.tr (l2.tr l3).mf)
    refine ⟨m', ?_, f'⟩
    have hst := m_struck (c := c) (j := j) (w := w) (m := m3) (n := n) (L := lS V K i) (S := allS) (K := K) g (hV2.fr (l3.1 78 (by omega) (by omega))) (lS_le g gk i) r3
    have hp : perS V K (i + 1) = perS V K i + (if stkS V K i = -2 then 0 else 1) := rfl
    unfold X11_perilsBy_L5_s X11_perilsBy_B35 X11_perilsBy_B60
    rw [cV75, m_sets g h1.2.2.1, bd_eq, if_neg (by rw [N_le (by omega) (by omega)]; omega), R75_19, ob_some, cVv75, e2, ob_some, if_pos (show (-1 : Int32) < 0 by decide), R75_15, ob_some, rW hV2, ob_some, cVv75, e3, ob_some, cV75, hst, bd_eq, pin_eq, pin_eq, show nI i + 1 = nI (i + 1) from N_add i 1]
    by_cases e : stkS V K i = -2
    · rw [if_pos ((stk_eq2 g).mpr e), show nI (perS V K i) + 0 = nI (perS V K i + 0) from N_add _ 0]
      rw [hp, if_pos e] at e'; exact e'
    · rw [if_neg (fun z => e ((stk_eq2 g).mp z)), show nI (perS V K i) + 1 = nI (perS V K i + 1) from N_add _ 1]
      rw [hp, if_neg e] at e'; exact e'
  · intro f m1 f1
    refine ⟨m1, ?_, f1⟩
    unfold X11_perilsBy_L5_s
    rw [cV75, m_sets g (h.mf f1).2.2.1, bd_eq, if_pos (by rw [N_le (by omega) (by omega)]; omega)]
theorem ls_85 {m m' : Nat → Nat → Int32} (h : ls m m') (x : Nat → Int32) : ls m (va_up m' 85 x) := ⟨fun y h1 h2 => by rw [vup_ne _ _ (by omega)]; exact h.1 y h1 h2, fun f h1 => by rw [vup_ne _ _ (by omega)]; exact h.2 f h1⟩
theorem RC_85 {m : Nat → Nat → Int32} (h : RC m V S) (x : Nat → Int32) : RC (va_up m 85 x) V S := by
  obtain ⟨M, h1, h2, h3⟩ := h
  exact ⟨M, h1, by rw [vup_ne _ _ (by omega)]; exact h2, h3⟩
theorem RD_85 {m : Nat → Nat → Int32} {D : Bool} {s : Nat} (h : RD m D s) (x : Nat → Int32) : RD (va_up m 85 x) D s := by
  unfold RD; rw [vup_ne _ _ (by omega)]; exact h
theorem ME_85 {m : Nat → Nat → Int32} (h : ME m V E) (x : Nat → Int32) : ME (va_up m 85 x) V E := fun b hb => by rw [vup_ne _ _ (by omega)]; exact h b hb
theorem m_perilsK (h : MN m V K) {k q : Nat} (hk : k < V 20 2) (hq : q < 4) : ∃ m', X11_perilsBy 75 (nI k) (nI q) (enc c j w m n) = some (nI (perS V (KC K k q) (2 ^ V 20 5)), enc c j w m' n) ∧ mf m m' := by
  have g := h.1
  have gk := h.2.1
  have g12 := g.1.2.2.1
  have gk' : GK V (KC K k q) := GKC gk hq
  have hN := sets_lt g
  refine loop_up (z := fun _ _ _ _ _ _ => none) (s := X11_perilsBy_L5_s) (2 ^ V 20 5) (fun i f => ∀ m1, mf m m1 → ∃ m', f 75 (nI k) (nI q) (nI (perS V (KC K k q) i)) (nI i) (enc c j w m1 n) = some (nI (perS V (KC K k q) (2 ^ V 20 5)), enc c j w m' n) ∧ mf m m') ?_ ?_ 5000 0 (Nat.zero_le _) (by omega) m (mf.rf m)
  · intro i f hi ih m1 f1
    have h1 := h.mf f1
    obtain ⟨m2, e2, l2, -, c2, d2, k2, p2⟩ := m_layS (c := c) (j := j) (w := w) (m := m1) (n := n) h1 (s := i) (by omega)
    generalize hx : upd (m2 85) k (nI q) = x
    have l2' : ls m1 (va_up m2 85 x) := ls_85 l2 x
    have k2' : MK (va_up m2 85 x) 85 0 V (KC K k q) := by rw [← hx]; exact MK_put k2 g hk
    have hV2 := (h1.mf l2'.mf).2.2.1
    obtain ⟨m3, e3, l3, r3⟩ := m_sailX (c := c) (j := j) (w := w) (m := va_up m2 85 x) (n := n) g gk' (GES g i) hV2 k2' (ME_85 p2 x) (RC_85 c2 x) (RD_85 d2 x) (Nat.le_refl _)
    obtain ⟨m', e', f'⟩ := ih m3 (f1.tr (l2'.tr l3).mf)
    refine ⟨m', ?_, f'⟩
    have hst := m_struck (c := c) (j := j) (w := w) (m := m3) (n := n) (L := lS V (KC K k q) i) (S := allS) (K := KC K k q) g (hV2.fr (l3.1 78 (by omega) (by omega))) (lS_le g gk' i) r3
    have hp : perS V (KC K k q) (i + 1) = perS V (KC K k q) i + (if stkS V (KC K k q) i = -2 then 0 else 1) := rfl
    unfold X11_perilsBy_L5_s X11_perilsBy_B35 X11_perilsBy_B60
    rw [cV75, m_sets g h1.2.2.1, bd_eq, if_neg (by rw [N_le (by omega) (by omega)]; omega), R75_19, ob_some, cVv75, e2, ob_some, if_neg (by rw [N_lt0 (by omega)]; exact id), R75_24, ob_some, S85 (by omega), ob_some, hx, R75_15, ob_some, rW hV2, ob_some, cVv75, e3, ob_some, cV75, hst, bd_eq, pin_eq, pin_eq, show nI i + 1 = nI (i + 1) from N_add i 1]
    by_cases e : stkS V (KC K k q) i = -2
    · rw [if_pos ((stk_eq2 g).mpr e), show nI (perS V (KC K k q) i) + 0 = nI (perS V (KC K k q) i + 0) from N_add _ 0]
      rw [hp, if_pos e] at e'; exact e'
    · rw [if_neg (fun z => e ((stk_eq2 g).mp z)), show nI (perS V (KC K k q) i) + 1 = nI (perS V (KC K k q) i + 1) from N_add _ 1]
      rw [hp, if_neg e] at e'; exact e'
  · intro f m1 f1
    refine ⟨m1, ?_, f1⟩
    unfold X11_perilsBy_L5_s
    rw [cV75, m_sets g (h.mf f1).2.2.1, bd_eq, if_pos (by rw [N_le (by omega) (by omega)]; omega)]
theorem m_wrongBy (h : MN m V K) {s : Nat} (hs : s < 16) : ∃ m', X11_wrongBy 75 (nI s) (enc c j w m n) = some (iI (misf V s), enc c j w m' n) ∧ ls m m' ∧ RSail m' V (KT V) (lS V (KT V) s) allS (V 20 2) := by
  have g := h.1
  have g3 := g.1.2.2.2.2.2.2.1
  have g12 := g.1.2.2.1
  obtain ⟨m1, m2, e1, e2, l1, l2, r2⟩ := m_tryT (c := c) (j := j) (w := w) (m := m) (n := n) h (s := s) (by omega)
  refine ⟨m2, ?_, l2, r2⟩
  have hV2 := (h.mf l2.mf).2.2.1
  unfold X11_wrongBy
  rw [R75_17, ob_some, cVv75, e1, ob_some, R75_15, ob_some, rW (h.mf l1.mf).2.2.1, ob_some, cVv75, e2, ob_some]
  refine loop_up (z := fun _ _ _ => none) (s := X11_wrongBy_L21_s) (V 20 6) (fun i f => (∀ i', i' < i → (sqS V (KT V) (V 9 i') s != ((V 10 i' : Nat) : Int)) = false) → f 75 (nI i) (enc c j w m2 n) = some (iI (misf V s), enc c j w m2 n)) ?_ ?_ 5000 0 (Nat.zero_le _) (by omega) (fun i h => absurd h (Nat.not_lt_zero _))
  · intro i f hi ih hn
    obtain ⟨a, b, ha, hb, e9, ea, eb, e10⟩ := hV2.2.2.2.2.2.2.2.2 i hi
    have g9 := g.2.2.2.2.2.2.2.2.2 i hi
    have hx := sqS_lt (K := KT V) (s := s) (b := V 9 i) g (GKT g) g9.1
    have sq : X11_squareOf 75 (nI (V 9 i)) (enc c j w m2 n) = some (iI (sqS V (KT V) (V 9 i) s), enc c j w m2 n) := m_squareOf g (lS_le g (GKT g) s) r2 (Nat.le_refl _) g9.1
    unfold X11_wrongBy_L21_s
    rw [R75_15, ob_some, rF hV2, ob_some, if_neg (by rw [N_le (by omega) (by omega)]; omega), ob_some, show (74 : Int32) + 3 * nI i = nI (74 + 3 * i) from IX3 74 i, M78 (by omega), ob_some, e9, cV75, sq, bd_eq, R75_15, ob_some, show nI (74 + 3 * i) + 1 = nI (74 + 3 * i + 1) from N_add _ 1, M78 (by omega), ob_some, ob_some, show nI (74 + 3 * i) + 2 = nI (74 + 3 * i + 2) from N_add _ 2, M78 (by omega), ob_some, ea, eb, show (1000 : Int32) * (nI a + 300) + nI b + 300 = nI (V 10 i) by rw [e10, show (300 : Int32) = nI 300 from rfl, show (1000 : Int32) = nI 1000 from rfl, N_add, N_mul, N_add, N_add], show nI i + 1 = nI (i + 1) from N_add i 1]
    have hiff : iI (sqS V (KT V) (V 9 i) s) = nI (V 10 i) ↔ sqS V (KT V) (V 9 i) s = ((V 10 i : Nat) : Int) := by rw [nI_iI, Z_inj hx.1 hx.2 (by omega) (by omega)]
    by_cases e : sqS V (KT V) (V 9 i) s = ((V 10 i : Nat) : Int)
    · rw [if_pos (hiff.mpr e)]
      refine ih fun i' hi' => ?_
      rcases Nat.lt_or_eq_of_le (Nat.le_of_lt_succ hi') with h1 | h1
      · exact hn i' h1
      · subst h1; simp [e]
    · rw [if_neg (fun z => e (hiff.mp z)), nI_iI, show misf V s = (i : Int) from fiF_at (p := fun i => sqS V (KT V) (V 9 i) s != ((V 10 i : Nat) : Int)) (by simp [e]) hn hi]
  · intro f hn
    unfold X11_wrongBy_L21_s
    rw [R75_15, ob_some, rF hV2, ob_some, if_pos (by rw [N_le (by omega) (by omega)]; omega), show misf V s = -2 from fiF_none hn]
    rfl
end
