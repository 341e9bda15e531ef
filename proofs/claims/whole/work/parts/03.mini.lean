/-! THE SMALL MACHINE: a heap by numbers (count, cells), values whose references are such numbers (.ref), String constants by their place (.retAddr j); what a method does is said by a plain function on it. -/
abbrev Hp : Type := Nat × (Nat → va_E)
abbrev MD : Type := MethodName × ByteArray × Nat × Option FieldType × Nat × Nat × Nat × Nat
abbrev mdY (M : MD) : MethodName := M.1
abbrev mdB (M : MD) : ByteArray := M.2.1
abbrev mdL (M : MD) : Nat := M.2.2.1
abbrev mdR (M : MD) : Option FieldType := M.2.2.2.1
abbrev mdF (M : MD) : Nat := M.2.2.2.2.1
abbrev mdO (M : MD) : Nat := M.2.2.2.2.2.1
abbrev mdC (M : MD) : Nat := M.2.2.2.2.2.2.1
abbrev mdS (M : MD) : Nat := M.2.2.2.2.2.2.2
def mdRoom (M : MD) : Room := { frames := mdF M, cells := mdC M, slots := mdS M, locals := mdO M }
def TB : List Cond := lw_tbl.filter goodWord
def mdW (M : MD) : List Cond := .code (mdY M) (mdB M) (mdL M) (mdR M) :: TB
theorem tb_in {w : Cond} (h : w ∈ lw_tbl) (g : goodWord w = true) : w ∈ TB := List.mem_filter.mpr ⟨h, g⟩
theorem tb_good {w : Cond} (h : w ∈ TB) : goodWord w = true := (List.mem_filter.mp h).2
def tv (sp ad : Nat → Nat) (v : Value) : Value := match v with
  | .ref a => .ref (ad a)
  | .retAddr j => .ref (sp j)
  | .int x => .int x
  | .long x => .long x
  | .float x => .float x
  | .double x => .double x
  | .null => .null
theorem tv_cat (sp ad : Nat → Nat) (v : Value) : (tv sp ad v).category = v.category := by cases v <;> rfl
def te (ks sp ad : Nat → Nat) (e : va_E) : va_E := match e with
  | .inl (k, n, .inl f) => .inl (ks k, n, .inl f)
  | .inl (k, n, .inr (.inl f)) => .inl (ks k, n, .inr (.inl f))
  | .inl (k, n, .inr (.inr (.inl f))) => .inl (ks k, n, .inr (.inr (.inl f)))
  | .inl (k, n, .inr (.inr (.inr (.inl f)))) => .inl (ks k, n, .inr (.inr (.inr (.inl f))))
  | .inl (k, n, .inr (.inr (.inr (.inr f)))) => .inl (ks k, n, .inr (.inr (.inr (.inr (fun j => (f j).map ad)))))
  | .inr (c, fs) => .inr (c, fs.map (tv sp ad))
def wfv (n : Nat) (v : Value) : Prop := match v with
  | .ref a => a < n
  | _ => True
def wfs (n : Nat) : List Value → Prop
  | [] => True
  | v :: t => wfv n v ∧ wfs n t
def wfL (n : Nat) : List (Option Value) → Prop
  | [] => True
  | none :: t => wfL n t
  | some v :: t => wfv n v ∧ wfL n t
def wfe (n : Nat) (e : va_E) : Prop := match e with
  | .inl (_, _, .inr (.inr (.inr (.inr f)))) => ∀ j a, f j = some a → a < n
  | .inl _ => True
  | .inr (_, fs) => ∀ (k : Nat) (v : Value), fs[k]? = some v → wfv n v
def wfh (h : Hp) : Prop := ∀ i, i < h.1 → wfe h.1 (h.2 i)
theorem wfv_up {n m : Nat} (h : n ≤ m) {v : Value} (hv : wfv n v) : wfv m v := by
  cases v with
  | ref a => exact Nat.lt_of_lt_of_le (show a < n from hv) h
  | _ => trivial
theorem wfs_up {n m : Nat} (h : n ≤ m) : ∀ {st : List Value}, wfs n st → wfs m st
  | [], _ => trivial
  | _ :: _, hv => ⟨wfv_up h hv.1, wfs_up h hv.2⟩
theorem wfL_up {n m : Nat} (h : n ≤ m) : ∀ {L : List (Option Value)}, wfL n L → wfL m L
  | [], _ => trivial
  | none :: t, hv => wfL_up (L := t) h hv
  | some _ :: t, hv => ⟨wfv_up h hv.1, wfL_up (L := t) h hv.2⟩
theorem wfe_up {n m : Nat} (h : n ≤ m) {e : va_E} (he : wfe n e) : wfe m e := by
  unfold wfe at he ⊢
  split at he
  · exact fun j a e => Nat.lt_of_lt_of_le (he j a e) h
  · trivial
  · exact fun k v e => wfv_up h (he k v e)
theorem wfs_get {n : Nat} : ∀ {st : List Value}, wfs n st → ∀ v ∈ st, wfv n v
  | [], _, v, hv => by cases hv
  | w :: t, h, v, hv => by
    rcases List.mem_cons.mp hv with rfl | hv
    · exact h.1
    · exact wfs_get h.2 v hv
theorem wfs_of {n : Nat} : ∀ {st : List Value}, (∀ v ∈ st, wfv n v) → wfs n st
  | [], _ => trivial
  | w :: t, h => ⟨h w List.mem_cons_self, wfs_of fun v hv => h v (List.mem_cons_of_mem _ hv)⟩
theorem wfs_app {n : Nat} {a b : List Value} (h : wfs n (a ++ b)) : wfs n a ∧ wfs n b := ⟨wfs_of fun v hv => wfs_get h v (List.mem_append_left _ hv), wfs_of fun v hv => wfs_get h v (List.mem_append_right _ hv)⟩
theorem wfs_rev {n : Nat} {a : List Value} (h : wfs n a.reverse) : wfs n a := wfs_of fun v hv => wfs_get h v (List.mem_reverse.mpr hv)
theorem wfL_get {n : Nat} : ∀ {L : List (Option Value)}, wfL n L → ∀ (i : Nat) (v : Value), L[i]? = some (some v) → wfv n v
  | [], _, i, v, hv => by simp at hv
  | none :: t, h, i, v, hv => by
    cases i with
    | zero => simp at hv
    | succ i => exact wfL_get (L := t) h i v (by simpa using hv)
  | some w :: t, h, i, v, hv => by
    cases i with
    | zero => simp at hv; rw [← hv]; exact h.1
    | succ i => exact wfL_get (L := t) h.2 i v (by simpa using hv)
theorem wfL_of {n : Nat} : ∀ {L : List (Option Value)}, (∀ (i : Nat) (v : Value), L[i]? = some (some v) → wfv n v) → wfL n L
  | [], _ => trivial
  | none :: t, h => wfL_of (L := t) fun i v e => h (i + 1) v (by simpa using e)
  | some w :: t, h => ⟨h 0 w rfl, wfL_of (L := t) fun i v e => h (i + 1) v (by simpa using e)⟩
/-- the locals: by their places; what isn't known is none -/
def prs (sp ad : Nat → Nat) : Nat → List (Option Value) → List (Nat × Value)
  | _, [] => []
  | i, none :: t => prs sp ad (i + 1) t
  | i, some v :: t => (i, tv sp ad v) :: prs sp ad (i + 1) t
theorem prs_mem {sp ad : Nat → Nat} : ∀ {L : List (Option Value)} {b : Nat} {q : Nat × Value}, q ∈ prs sp ad b L ↔ ∃ (j : Nat) (v : Value), L[j]? = some (some v) ∧ q = (b + j, tv sp ad v)
  | [], b, q => by simp [prs]
  | none :: t, b, q => by
    rw [prs, prs_mem]
    constructor
    · rintro ⟨j, v, h1, h2⟩
      exact ⟨j + 1, v, by simpa using h1, by rw [h2]; congr 1; omega⟩
    · rintro ⟨j, v, h1, h2⟩
      cases j with
      | zero => simp at h1
      | succ j => exact ⟨j, v, by simpa using h1, by rw [h2]; congr 1; omega⟩
  | some w :: t, b, q => by
    rw [prs, List.mem_cons, prs_mem]
    constructor
    · rintro (h | ⟨j, v, h1, h2⟩)
      · exact ⟨0, w, rfl, by rw [h]; rfl⟩
      · exact ⟨j + 1, v, by simpa using h1, by rw [h2]; congr 1; omega⟩
    · rintro ⟨j, v, h1, h2⟩
      cases j with
      | zero => left; simp at h1; rw [h2, h1]; rfl
      | succ j => right; exact ⟨j, v, by simpa using h1, by rw [h2]; congr 1; omega⟩
theorem prs_at {sp ad : Nat → Nat} {ls : Array Slot} {nL i : Nat} {L : List (Option Value)} {v : Value} (h : lv_has ls nL (prs sp ad 0 L)) (hi : L[i]? = some (some v)) : ls[i]? = some (.val (tv sp ad v)) := by
  have := h.2.2 (0 + i, tv sp ad v) (prs_mem.mpr ⟨i, v, hi, rfl⟩)
  simpa using this
theorem prs_sub {ls : Array Slot} {nL : Nat} {l l' : List (Nat × Value)} (h : lv_has ls nL l) (hs : ∀ q ∈ l', q ∈ l) : lv_has ls nL l' := ⟨h.1, h.2.1, fun q hq => h.2.2 q (hs q hq)⟩
/-- fewer known locals -/
def wkL : List (Option Value) → List (Option Value) → Prop
  | [], _ => True
  | none :: a, [] => wkL a []
  | none :: a, _ :: b => wkL a b
  | some _ :: _, [] => False
  | some v :: a, o :: b => o = some v ∧ wkL a b
theorem wkL_get : ∀ {L' L : List (Option Value)}, wkL L' L → ∀ (j : Nat) (v : Value), L'[j]? = some (some v) → L[j]? = some (some v)
  | [], _, _, j, v, h => by simp at h
  | none :: a, [], hw, j, v, h => by
    cases j with
    | zero => simp at h
    | succ j => exact absurd (wkL_get (L' := a) (L := []) hw j v (by simpa using h)) (by simp)
  | none :: a, o :: b, hw, j, v, h => by
    cases j with
    | zero => simp at h
    | succ j => simpa using wkL_get (L' := a) (L := b) hw j v (by simpa using h)
  | some w :: a, [], hw, j, v, h => absurd hw (by simp [wkL])
  | some w :: a, o :: b, hw, j, v, h => by
    cases j with
    | zero => simp at h; rw [← h]; simp [hw.1]
    | succ j => simpa using wkL_get (L' := a) (L := b) hw.2 j v (by simpa using h)
def clr (L : List (Option Value)) (i : Nat) : List (Option Value) := match i with
  | 0 => L
  | j + 1 => match L[j]? with
    | some (some w) => if w.category = 2 then L.set j none else L
    | _ => L
def stL1 (L : List (Option Value)) (i : Nat) (v : Value) : List (Option Value) := (clr L i).set i (some v)
def stL2 (L : List (Option Value)) (i : Nat) (v : Value) : List (Option Value) := ((clr L i).set i (some v)).set (i + 1) none
theorem clr_get {L : List (Option Value)} {i j : Nat} {w : Value} (h : (clr L i)[j]? = some (some w)) : L[j]? = some (some w) ∧ ¬ (j + 1 = i ∧ w.category = 2) := by
  unfold clr at h
  split at h
  · exact ⟨h, fun q => by omega⟩
  · rename_i k
    split at h
    · rename_i x hx
      split at h
      · rename_i hc
        by_cases hj : k = j
        · subst hj
          rw [List.getElem?_set_self'] at h
          cases hL : L[k]? with
          | none => rw [hL] at h; simp at h
          | some y => rw [hL] at h; simp at h
        · rw [List.getElem?_set_ne hj] at h
          exact ⟨h, fun q => by omega⟩
      · rename_i hc
        refine ⟨h, fun q => hc ?_⟩
        have : j = k := by omega
        rw [this, hx] at h
        simp at h
        rw [h]; exact q.2
    · rename_i hx
      refine ⟨h, fun q => ?_⟩
      have : j = k := by omega
      rw [this] at h
      exact hx w h
theorem stL1_get {L : List (Option Value)} {i j : Nat} {v w : Value} (h : (stL1 L i v)[j]? = some (some w)) : (j = i ∧ w = v) ∨ (L[j]? = some (some w) ∧ j ≠ i ∧ ¬ (j + 1 = i ∧ w.category = 2)) := by
  unfold stL1 at h
  by_cases hj : i = j
  · subst hj
    rw [List.getElem?_set_self'] at h
    cases hL : (clr L i)[i]? with
    | none => rw [hL] at h; simp at h
    | some y => rw [hL] at h; simp at h; exact Or.inl ⟨rfl, h.symm⟩
  · rw [List.getElem?_set_ne hj] at h
    exact Or.inr ⟨(clr_get h).1, Ne.symm hj, (clr_get h).2⟩
theorem stL2_get {L : List (Option Value)} {i j : Nat} {v w : Value} (h : (stL2 L i v)[j]? = some (some w)) : (j = i ∧ w = v) ∨ (L[j]? = some (some w) ∧ j ≠ i ∧ j ≠ i + 1 ∧ ¬ (j + 1 = i ∧ w.category = 2)) := by
  unfold stL2 at h
  by_cases hj1 : i + 1 = j
  · subst hj1
    rw [List.getElem?_set_self'] at h
    cases hL : ((clr L i).set i (some v))[i + 1]? with
    | none => rw [hL] at h; simp at h
    | some y => rw [hL] at h; simp at h
  · rw [List.getElem?_set_ne hj1] at h
    rcases stL1_get (show (stL1 L i v)[j]? = some (some w) from h) with q | q
    · exact Or.inl q
    · exact Or.inr ⟨q.1, q.2.1, Ne.symm hj1, q.2.2⟩
theorem prs_st1 {sp ad : Nat → Nat} {ls : Array Slot} {nL i : Nat} {L : List (Option Value)} {v : Value} {lv : List (Nat × Value)} (hlv : lv = (i, tv sp ad v) :: (prs sp ad 0 L).filter (fun q => !(q.1 == i) && !(q.1 + 1 == i && q.2.category == 2))) (h : lv_has ls nL lv) : lv_has ls nL (prs sp ad 0 (stL1 L i v)) := by
  subst hlv
  refine prs_sub h fun q hq => ?_
  obtain ⟨j, w, h1, rfl⟩ := prs_mem.mp hq
  rcases stL1_get h1 with ⟨rfl, rfl⟩ | ⟨g1, g2, g3⟩
  · simp
  · refine List.mem_cons_of_mem _ (List.mem_filter.mpr ⟨prs_mem.mpr ⟨j, w, g1, rfl⟩, ?_⟩)
    rw [tv_cat]
    simp only [Nat.zero_add, Bool.and_eq_true, Bool.not_eq_true', beq_eq_false_iff_ne, ne_eq, Bool.and_eq_false_imp, beq_iff_eq]
    exact ⟨g2, fun a b => g3 ⟨a, b⟩⟩
theorem prs_st2 {sp ad : Nat → Nat} {ls : Array Slot} {nL i : Nat} {L : List (Option Value)} {v : Value} {lv : List (Nat × Value)} (hlv : lv = (i, tv sp ad v) :: (prs sp ad 0 L).filter (fun q => !(q.1 == i) && (!(q.1 == i + 1) && !(q.1 + 1 == i && q.2.category == 2)))) (h : lv_has ls nL lv) : lv_has ls nL (prs sp ad 0 (stL2 L i v)) := by
  subst hlv
  refine prs_sub h fun q hq => ?_
  obtain ⟨j, w, h1, rfl⟩ := prs_mem.mp hq
  rcases stL2_get h1 with ⟨rfl, rfl⟩ | ⟨g1, g2, g4, g3⟩
  · simp
  · refine List.mem_cons_of_mem _ (List.mem_filter.mpr ⟨prs_mem.mpr ⟨j, w, g1, rfl⟩, ?_⟩)
    rw [tv_cat]
    simp only [Nat.zero_add, Bool.and_eq_true, Bool.not_eq_true', beq_eq_false_iff_ne, ne_eq, Bool.and_eq_false_imp, beq_iff_eq]
    exact ⟨g2, g4, fun a b => g3 ⟨a, b⟩⟩
theorem wfL_st1 {n i : Nat} {L : List (Option Value)} {v : Value} (h : wfL n L) (hv : wfv n v) : wfL n (stL1 L i v) := wfL_of fun j w e => by
  rcases stL1_get e with ⟨-, rfl⟩ | ⟨g, -⟩
  · exact hv
  · exact wfL_get h j w g
theorem wfL_st2 {n i : Nat} {L : List (Option Value)} {v : Value} (h : wfL n L) (hv : wfv n v) : wfL n (stL2 L i v) := wfL_of fun j w e => by
  rcases stL2_get e with ⟨-, rfl⟩ | ⟨g, -⟩
  · exact hv
  · exact wfL_get h j w g
/-- the cells as the kit has them -/
def wsO (ks sp ad : Nat → Nat) (h : Hp) : va_W := (List.range h.1).map fun i => (ad i, te ks sp ad (h.2 i))
theorem wsO_get {ks sp ad : Nat → Nat} {h : Hp} {i : Nat} (hi : i < h.1) : (wsO ks sp ad h)[i]? = some (ad i, te ks sp ad (h.2 i)) := by
  simp [wsO, hi]
theorem wsO_lt {ks sp ad : Nat → Nat} {h : Hp} {i : Nat} {q : Nat × va_E} (e : (wsO ks sp ad h)[i]? = some q) : i < h.1 := by
  have := (List.getElem?_eq_some_iff.mp e).1
  simpa [wsO] using this
theorem wsO_set {ks sp ad : Nat → Nat} {h : Hp} {i : Nat} (e : va_E) (hi : i < h.1) : (wsO ks sp ad h).set i (ad i, te ks sp ad e) = wsO ks sp ad (h.1, va_up h.2 i e) := by
  apply List.ext_getElem?
  intro j
  by_cases hj : i = j
  · subst hj
    rw [List.getElem?_set_self', wsO_get hi, wsO_get (h := (h.1, va_up h.2 i e)) hi]
    simp [va_up]
  · rw [List.getElem?_set_ne hj]
    by_cases hlt : j < h.1
    · rw [wsO_get hlt, wsO_get (h := (h.1, va_up h.2 i e)) hlt]
      simp [va_up, Ne.symm hj]
    · have e1 : (wsO ks sp ad h)[j]? = none := by simp [wsO]; omega
      have e2 : (wsO ks sp ad (h.1, va_up h.2 i e))[j]? = none := by simp [wsO]; omega
      rw [e1, e2]
theorem te_ad {ks sp ad ad' : Nat → Nat} {n : Nat} (ha : ∀ i, i < n → ad' i = ad i) {e : va_E} (he : wfe n e) : te ks sp ad' e = te ks sp ad e := by
  unfold wfe at he
  split at he
  · rename_i k m f
    have hf : (fun j => (f j).map ad') = fun j => (f j).map ad := by
      funext j
      cases hf : f j with
      | none => rfl
      | some a => simp [ha a (he j a hf)]
    simp only [te, hf]
  · rename_i x hx
    obtain ⟨k, m, f⟩ := x
    rcases f with f | f | f | f | f
    · rfl
    · rfl
    · rfl
    · rfl
    · exact absurd rfl (hx k m f)
  · rename_i c fs
    simp only [te]
    congr 2
    apply List.map_congr_left
    intro v hv
    obtain ⟨k, hk⟩ := List.getElem?_of_mem hv
    have hw := he k v hk
    cases v <;> simp only [tv]
    simp only [wfv] at hw
    rw [ha _ hw]
theorem tv_ad {sp ad ad' : Nat → Nat} {n : Nat} (ha : ∀ i, i < n → ad' i = ad i) {v : Value} (hv : wfv n v) : tv sp ad' v = tv sp ad v := by
  cases v <;> simp only [tv]
  simp only [wfv] at hv
  rw [ha _ hv]
theorem tvs_ad {sp ad ad' : Nat → Nat} {n : Nat} (ha : ∀ i, i < n → ad' i = ad i) {st : List Value} (hs : wfs n st) : st.map (tv sp ad') = st.map (tv sp ad) := List.map_congr_left fun v hv => tv_ad ha (wfs_get hs v hv)
theorem prs_ad {sp ad ad' : Nat → Nat} {n : Nat} (ha : ∀ i, i < n → ad' i = ad i) : ∀ {L : List (Option Value)} (b : Nat), wfL n L → prs sp ad' b L = prs sp ad b L
  | [], _, _ => rfl
  | none :: t, b, h => prs_ad (L := t) ha (b + 1) h
  | some v :: t, b, h => by
    rw [prs, prs, tv_ad ha h.1, prs_ad (L := t) ha (b + 1) h.2]
theorem wsO_ad {ks sp ad ad' : Nat → Nat} {h : Hp} (ha : ∀ i, i < h.1 → ad' i = ad i) (hw : wfh h) : wsO ks sp ad' h = wsO ks sp ad h := List.map_congr_left fun i hi => by
  have hi : i < h.1 := List.mem_range.mp hi
  rw [ha i hi, te_ad ha (hw i hi)]
theorem wsO_push {ks sp ad : Nat → Nat} {h : Hp} (e : va_E) (q : Nat) (hw : wfh h) (he : te ks sp (va_up ad h.1 q) e = te ks sp ad e) : wsO ks sp (va_up ad h.1 q) (h.1 + 1, va_up h.2 h.1 e) = wsO ks sp ad h ++ [(q, te ks sp ad e)] := by
  have ha : ∀ i, i < h.1 → (va_up ad h.1 q) i = ad i := fun i hi => by simp [va_up]; omega
  unfold wsO
  rw [List.range_succ, List.map_append]
  congr 1
  · apply List.map_congr_left
    intro i hi
    have hi : i < h.1 := List.mem_range.mp hi
    have e1 : va_up h.2 h.1 e i = h.2 i := by simp [va_up]; omega
    simp only [e1, ha i hi]
    rw [te_ad ha (hw i hi)]
  · simp only [List.map_cons, List.map_nil, va_up, if_true]
    rw [← he]
def tysO (ks : Nat → Nat) : List (ClassId × FieldType) := [(ks 0, .byte), (ks 1, .int), (ks 2, .long), (ks 3, .object "GlassWatch$Keeping")]
