/-! the pure layer: the whole heap as plain functions -/
def skT : List (Sum (Nat × Nat) (Nat × List (Nat × Nat))) := [
  .inr (10, [(2, 1), (2, 32), (2, 35), (2, 40), (2, 56), (2, 59), (2, 68), (2, 71), (2, 74), (3, 0), (3, 1), (0, 0), (0, 0), (0, 0), (0, 0)]),
  .inl (0, 900),
  .inr (9, [(2, 3), (2, 5), (2, 7), (2, 9), (2, 11), (2, 13), (2, 15), (0, 0), (0, 0), (0, 0), (0, 0), (0, 0)]),
  .inr (8, [(4, 5), (4, 2), (2, 4), (0, 0)]),
  .inl (1, 10),
  .inr (8, [(4, 4), (4, 2), (2, 6), (0, 0)]),
  .inl (1, 8),
  .inr (8, [(4, 12), (4, 4), (2, 8), (0, 0)]),
  .inl (1, 48),
  .inr (8, [(4, 4), (4, 1), (2, 10), (0, 0)]),
  .inl (1, 4),
  .inr (8, [(4, 6), (4, 1), (2, 12), (0, 0)]),
  .inl (1, 6),
  .inr (8, [(4, 4), (4, 2), (2, 14), (0, 0)]),
  .inl (1, 8),
  .inr (8, [(4, 3), (4, 2), (2, 16), (0, 0)]),
  .inl (1, 6),
  .inr (9, [(2, 18), (2, 20), (2, 22), (2, 24), (2, 26), (2, 28), (2, 30), (0, 0), (0, 0), (0, 0), (0, 0), (0, 0)]),
  .inr (8, [(4, 5), (4, 2), (2, 19), (0, 0)]),
  .inl (1, 10),
  .inr (8, [(4, 4), (4, 2), (2, 21), (0, 0)]),
  .inl (1, 8),
  .inr (8, [(4, 12), (4, 4), (2, 23), (0, 0)]),
  .inl (1, 48),
  .inr (8, [(4, 4), (4, 1), (2, 25), (0, 0)]),
  .inl (1, 4),
  .inr (8, [(4, 6), (4, 1), (2, 27), (0, 0)]),
  .inl (1, 6),
  .inr (8, [(4, 4), (4, 2), (2, 29), (0, 0)]),
  .inl (1, 8),
  .inr (8, [(4, 3), (4, 2), (2, 31), (0, 0)]),
  .inl (1, 6),
  .inr (5, [(2, 1), (2, 33), (2, 34), (3, 2), (0, 0), (0, 0), (0, 0), (0, 0), (1, 0), (0, 0), (0, 0), (0, 0), (0, 0)]),
  .inl (2, 5),
  .inl (2, 4),
  .inr (4, [(2, 36), (2, 38), (0, 0)]),
  .inr (8, [(4, 12), (4, 3), (2, 37), (0, 0)]),
  .inl (1, 36),
  .inr (8, [(4, 5), (4, 1), (2, 39), (0, 0)]),
  .inl (1, 5),
  .inl (3, 3),
  .inr (4, [(2, 42), (2, 44), (0, 0)]),
  .inr (8, [(4, 12), (4, 3), (2, 43), (0, 0)]),
  .inl (1, 36),
  .inr (8, [(4, 5), (4, 1), (2, 45), (0, 0)]),
  .inl (1, 5),
  .inr (4, [(2, 47), (2, 49), (0, 0)]),
  .inr (8, [(4, 12), (4, 3), (2, 48), (0, 0)]),
  .inl (1, 36),
  .inr (8, [(4, 5), (4, 1), (2, 50), (0, 0)]),
  .inl (1, 5),
  .inr (4, [(2, 52), (2, 54), (0, 0)]),
  .inr (8, [(4, 12), (4, 3), (2, 53), (0, 0)]),
  .inl (1, 36),
  .inr (8, [(4, 5), (4, 1), (2, 55), (0, 0)]),
  .inl (1, 5),
  .inr (0, [(2, 57), (0, 0), (0, 0)]),
  .inr (8, [(4, 16), (4, 3), (2, 58), (0, 0)]),
  .inl (1, 48),
  .inr (6, [(2, 60), (2, 61), (2, 63), (3, 3), (0, 0)]),
  .inr (7, [(0, 0), (0, 0), (0, 0), (0, 0)]),
  .inr (8, [(4, 12), (4, 1), (2, 62), (0, 0)]),
  .inl (1, 12),
  .inr (4, [(2, 64), (2, 66), (0, 0)]),
  .inr (8, [(4, 12), (4, 3), (2, 65), (0, 0)]),
  .inl (1, 36),
  .inr (8, [(4, 5), (4, 1), (2, 67), (0, 0)]),
  .inl (1, 5),
  .inr (1, [(2, 59), (2, 69)]),
  .inr (8, [(4, 12), (4, 1), (2, 70), (0, 0)]),
  .inl (1, 12),
  .inr (3, [(2, 59), (2, 72)]),
  .inr (8, [(4, 16), (4, 1), (2, 73), (0, 0)]),
  .inl (1, 16),
  .inr (2, [(2, 59), (1, 0), (1, 0)]),
  .inr (11, [(0, 0), (2, 76), (0, 0), (0, 0), (0, 0), (0, 0), (0, 0), (0, 0), (0, 0), (0, 0), (0, 0), (0, 0), (2, 77), (0, 0), (0, 0), (2, 78), (2, 79), (2, 80), (2, 81), (2, 82), (2, 83), (2, 84), (0, 0), (0, 0), (2, 85), (2, 86), (2, 87), (2, 88), (2, 89), (2, 90), (2, 91), (0, 0), (0, 0), (0, 0), (2, 92), (2, 93), (2, 94), (0, 0), (0, 0), (0, 0), (0, 0), (1, 0), (1, 0), (1, 0), (0, 0)]),
  .inl (1, 900),
  .inl (1, 8),
  .inl (1, 164),
  .inl (1, 164),
  .inl (1, 25),
  .inl (1, 25),
  .inl (1, 25),
  .inl (1, 400),
  .inl (1, 75),
  .inl (1, 25),
  .inl (1, 5),
  .inl (1, 12),
  .inl (1, 13),
  .inl (1, 13),
  .inl (1, 13),
  .inl (1, 13),
  .inl (1, 16),
  .inl (1, 12),
  .inl (1, 12),
  .inl (2, 1)]
def sk (a : Nat) : Sum (Nat × Nat) (Nat × List (Nat × Nat)) := skT.getD a (.inr (0, []))
def fldv (f : Nat × Nat) (i : Nat) (c : Nat → Int32) (j : Nat → Int64) (w : Nat → Nat) : Value := match f with
  | (0, _) => .int (c i)
  | (1, _) => .long (j i)
  | (2, r) => .ref r
  | (3, q) => .ref (w q)
  | (_, k) => .int (nI k)
def fldsv (c : Nat → Int32) (j : Nat → Int64) (w : Nat → Nat) : List (Nat × Nat) → Nat → List Value
  | [], _ => []
  | f :: fs, i => fldv f i c j w :: fldsv c j w fs (i + 1)
def cellv (s : Sum (Nat × Nat) (Nat × List (Nat × Nat))) (c : Nat → Int32) (j : Nat → Int64) (w : Nat → Nat) : va_E := match s with
  | .inr (ci, fs) => .inr (ci, fldsv c j w fs 0)
  | .inl (2, n) => .inl (2, n, .inr (.inl j))
  | .inl (3, n) => .inl (3, n, .inr (.inr (.inr (.inr (fun i => if i < 3 then some (41 + 5 * i) else none)))))
  | .inl (k, n) => .inl (k, n, .inl c)
/-- the heap of class (c, j, w) and reference (m, n) -/
def enc (c : Nat → Nat → Int32) (j : Nat → Nat → Int64) (w : Nat → Nat) (m : Nat → Nat → Int32) (n : Nat → Nat → Int64) : Hp :=
  (96, fun a => cellv (sk a) (if a < 75 then c a else m a) (if a < 75 then j a else n a) w)
theorem fldsv_get {c : Nat → Int32} {j : Nat → Int64} {w : Nat → Nat} : ∀ (fs : List (Nat × Nat)) (i f : Nat), (fldsv c j w fs i)[f]? = (fs[f]?).map (fun q => fldv q (i + f) c j w)
  | [], i, f => by simp [fldsv]
  | q :: fs, i, 0 => by simp [fldsv]
  | q :: fs, i, f + 1 => by
    simp only [fldsv, List.getElem?_cons_succ, fldsv_get fs (i + 1) f]
    rw [show i + 1 + f = i + (f + 1) by omega]
theorem fldsv_len {c : Nat → Int32} {j : Nat → Int64} {w : Nat → Nat} : ∀ (fs : List (Nat × Nat)) (i : Nat), (fldsv c j w fs i).length = fs.length
  | [], i => rfl
  | q :: fs, i => by simp [fldsv, fldsv_len fs (i + 1)]
theorem fldsv_ext {c c' : Nat → Int32} {j j' : Nat → Int64} {w w' : Nat → Nat} (fs : List (Nat × Nat)) (l : List Value) (hl : l.length = fs.length) (h : ∀ (f : Nat) (q : Nat × Nat), fs[f]? = some q → l[f]? = some (fldv q f c' j' w')) : l = fldsv c' j' w' fs 0 := by
  apply List.ext_getElem?
  intro f
  rw [fldsv_get]
  cases e : fs[f]? with
  | none =>
    simp only [Option.map_none]
    rw [List.getElem?_eq_none_iff] at e ⊢
    omega
  | some q => rw [h f q e]; simp
section
variable {c : Nat → Nat → Int32} {j : Nat → Nat → Int64} {w : Nat → Nat} {m : Nat → Nat → Int32} {n : Nat → Nat → Int64} {a ci f : Nat} {fs : List (Nat × Nat)}
theorem enc_at (c : Nat → Nat → Int32) (j : Nat → Nat → Int64) (w : Nat → Nat) (m : Nat → Nat → Int32) (n : Nat → Nat → Int64) (a : Nat) : (enc c j w m n).2 a = cellv (sk a) (if a < 75 then c a else m a) (if a < 75 then j a else n a) w := rfl
theorem gF_enc {q : Nat × Nat} (hs : sk a = .inr (ci, fs)) (hf : fs[f]? = some q) : gF (enc c j w m n) a ci f = some (fldv q f (if a < 75 then c a else m a) (if a < 75 then j a else n a) w) := by
  unfold gF
  rw [enc_at, hs]
  simp only [cellv, if_true, fldsv_get, hf, Option.map_some, Nat.zero_add]
theorem gI_c (hs : sk a = .inr (ci, fs)) (hf : fs[f]? = some (0, 0)) (ha : a < 75) : gI (enc c j w m n) a ci f = some (c a f) := by
  unfold gI; rw [gF_enc hs hf]; simp [fldv, asI, ha]
theorem gI_m (hs : sk a = .inr (ci, fs)) (hf : fs[f]? = some (0, 0)) (ha : 75 ≤ a) : gI (enc c j w m n) a ci f = some (m a f) := by
  unfold gI; rw [gF_enc hs hf]; simp [fldv, asI, Nat.not_lt.mpr ha]
theorem gI_k {k : Nat} (hs : sk a = .inr (ci, fs)) (hf : fs[f]? = some (4, k)) : gI (enc c j w m n) a ci f = some (nI k) := by
  unfold gI; rw [gF_enc hs hf]; rfl
theorem gJ_c (hs : sk a = .inr (ci, fs)) (hf : fs[f]? = some (1, 0)) (ha : a < 75) : gJ (enc c j w m n) a ci f = some (j a f) := by
  unfold gJ; rw [gF_enc hs hf]; simp [fldv, asJ, ha]
theorem gJ_m (hs : sk a = .inr (ci, fs)) (hf : fs[f]? = some (1, 0)) (ha : 75 ≤ a) : gJ (enc c j w m n) a ci f = some (n a f) := by
  unfold gJ; rw [gF_enc hs hf]; simp [fldv, asJ, Nat.not_lt.mpr ha]
theorem gR_k {k : Nat} (hs : sk a = .inr (ci, fs)) (hf : fs[f]? = some (2, k)) : gR (enc c j w m n) a ci f = some k := by
  unfold gR; rw [gF_enc hs hf]; rfl
theorem gR_w {k : Nat} (hs : sk a = .inr (ci, fs)) (hf : fs[f]? = some (3, k)) : gR (enc c j w m n) a ci f = some (w k) := by
  unfold gR; rw [gF_enc hs hf]; rfl
theorem isC_enc (hs : sk a = .inr (ci, fs)) : isC (enc c j w m n) a ci = true := by
  unfold isC; rw [enc_at, hs]; simp [cellv]
theorem pF_enc {v : Value} {c' : Nat → Nat → Int32} {j' : Nat → Nat → Int64} {w' : Nat → Nat} {m' : Nat → Nat → Int32} {n' : Nat → Nat → Int64} (hs : sk a = .inr (ci, fs)) (hf : f < fs.length)
    (ho : ∀ x, x ≠ a → cellv (sk x) (if x < 75 then c' x else m' x) (if x < 75 then j' x else n' x) w' = cellv (sk x) (if x < 75 then c x else m x) (if x < 75 then j x else n x) w)
    (hi : ∀ (i : Nat) (q : Nat × Nat), fs[i]? = some q → fldv q i (if a < 75 then c' a else m' a) (if a < 75 then j' a else n' a) w' = if i = f then v else fldv q i (if a < 75 then c a else m a) (if a < 75 then j a else n a) w) :
    pF (enc c j w m n) a ci f v = some (enc c' j' w' m' n') := by
  unfold pF
  rw [enc_at, hs]
  simp only [cellv]
  rw [if_pos ⟨trivial, by rw [fldsv_len]; exact hf⟩]
  refine congrArg some (Prod.ext rfl (funext fun x => ?_))
  simp only [va_up, enc]
  by_cases hx : x = a
  · subst hx
    rw [if_pos rfl, hs]
    simp only [cellv]
    refine congrArg (fun l => Sum.inr (ci, l)) (fldsv_ext (c := fun _ => 0) (j := fun _ => 0) (w := w) fs _ (by simp [fldsv_len]) fun i q hq => ?_)
    rw [List.getElem?_set, hi i q hq]
    by_cases h : f = i
    · subst h
      rw [if_pos rfl, if_pos rfl, if_pos (by rw [fldsv_len]; exact hf)]
    · rw [if_neg h, fldsv_get, hq]; simp [show ¬ i = f from fun e => h e.symm]
  · rw [if_neg hx, ho x hx]
def noW (q : Nat) (s : Sum (Nat × Nat) (Nat × List (Nat × Nat))) : Bool := match s with
  | .inr (_, fs) => fs.all (fun x => x != (3, q))
  | .inl _ => true
theorem fldv_w {c : Nat → Int32} {j : Nat → Int64} {w : Nat → Nat} {x : Nat × Nat} {i q r : Nat} (h : x ≠ (3, q)) : fldv x i c j (va_up w q r) = fldv x i c j w := by
  rcases x with ⟨x1, x2⟩
  unfold fldv
  split <;> try rfl
  rename_i e
  cases e
  simp only [va_up]
  rw [if_neg (fun e => h (by rw [e]))]
theorem fldsv_w {c : Nat → Int32} {j : Nat → Int64} {w : Nat → Nat} {q r : Nat} : ∀ (fs : List (Nat × Nat)) (i : Nat), (fs.all (fun x => x != (3, q)) = true) → fldsv c j (va_up w q r) fs i = fldsv c j w fs i
  | [], i, _ => rfl
  | x :: fs, i, h => by
    simp only [List.all_cons, Bool.and_eq_true] at h
    simp only [fldsv]
    rw [fldv_w (by simpa using h.1), fldsv_w fs (i + 1) h.2]
theorem cellv_w {s : Sum (Nat × Nat) (Nat × List (Nat × Nat))} {c : Nat → Int32} {j : Nat → Int64} {w : Nat → Nat} {q r : Nat} (h : noW q s = true) : cellv s c j (va_up w q r) = cellv s c j w := by
  rcases s with ⟨k, l⟩ | ⟨ci, fs⟩
  · match k with
    | 0 => rfl
    | 1 => rfl
    | 2 => rfl
    | 3 => rfl
    | k + 4 => rfl
  · simp only [cellv]; rw [fldsv_w fs 0 h]
theorem sk_ge {x : Nat} (h : 96 ≤ x) : sk x = .inr (0, []) := by
  unfold sk; rw [List.getD_eq_getElem?_getD, List.getElem?_eq_none_iff.mpr (by exact h)]; rfl
theorem noW_all {a q : Nat} (h : ∀ x, x < 96 → x ≠ a → noW q (sk x) = true) : ∀ x, x ≠ a → noW q (sk x) = true := by
  intro x hx
  by_cases h1 : x < 96
  · exact h x h1 hx
  · rw [sk_ge (Nat.not_lt.mp h1)]; rfl
theorem pF_c {v : Int32} (hs : sk a = .inr (ci, fs)) (hf : fs[f]? = some (0, 0)) (ha : a < 75) : pF (enc c j w m n) a ci f (.int v) = some (enc (va_up c a (upd (c a) f v)) j w m n) := by
  refine pF_enc hs (List.getElem?_eq_some_iff.mp hf).1 (fun x hx => ?_) fun i q hq => ?_
  · simp [va_up, hx]
  · by_cases e : i = f
    · subst e; rw [hf] at hq; cases hq; simp [fldv, va_up, upd, ha]
    · rcases q with ⟨q1, q2⟩; rw [if_neg e]; simp only [if_pos ha, va_up, if_true]; unfold fldv; split <;> simp [upd, e]
theorem pF_m {v : Int32} (hs : sk a = .inr (ci, fs)) (hf : fs[f]? = some (0, 0)) (ha : 75 ≤ a) : pF (enc c j w m n) a ci f (.int v) = some (enc c j w (va_up m a (upd (m a) f v)) n) := by
  have ha' := Nat.not_lt.mpr ha
  refine pF_enc hs (List.getElem?_eq_some_iff.mp hf).1 (fun x hx => ?_) fun i q hq => ?_
  · simp [va_up, hx]
  · by_cases e : i = f
    · subst e; rw [hf] at hq; cases hq; simp [fldv, va_up, upd, ha']
    · rcases q with ⟨q1, q2⟩; rw [if_neg e]; simp only [if_neg ha', va_up, if_true]; unfold fldv; split <;> simp [upd, e]
theorem pF_cj {v : Int64} (hs : sk a = .inr (ci, fs)) (hf : fs[f]? = some (1, 0)) (ha : a < 75) : pF (enc c j w m n) a ci f (.long v) = some (enc c (va_up j a (vp_updL (j a) f v)) w m n) := by
  refine pF_enc hs (List.getElem?_eq_some_iff.mp hf).1 (fun x hx => ?_) fun i q hq => ?_
  · simp [va_up, hx]
  · by_cases e : i = f
    · subst e; rw [hf] at hq; cases hq; simp [fldv, va_up, vp_updL, ha]
    · rcases q with ⟨q1, q2⟩; rw [if_neg e]; simp only [if_pos ha, va_up, if_true]; unfold fldv; split <;> simp [vp_updL, e]
theorem pF_mj {v : Int64} (hs : sk a = .inr (ci, fs)) (hf : fs[f]? = some (1, 0)) (ha : 75 ≤ a) : pF (enc c j w m n) a ci f (.long v) = some (enc c j w m (va_up n a (vp_updL (n a) f v))) := by
  have ha' := Nat.not_lt.mpr ha
  refine pF_enc hs (List.getElem?_eq_some_iff.mp hf).1 (fun x hx => ?_) fun i q hq => ?_
  · simp [va_up, hx]
  · by_cases e : i = f
    · subst e; rw [hf] at hq; cases hq; simp [fldv, va_up, vp_updL, ha']
    · rcases q with ⟨q1, q2⟩; rw [if_neg e]; simp only [if_neg ha', va_up, if_true]; unfold fldv; split <;> simp [vp_updL, e]
theorem aI_c {len : Nat} {i : Int32} (hs : sk a = .inl (1, len)) (ha : a < 75) : aI (enc c j w m n) a i = if i < 0 ∨ len ≤ i.toNatClampNeg then none else some (c a i.toNatClampNeg) := by
  unfold aI; rw [enc_at, hs]; simp [cellv, ha]
theorem aI_m {len : Nat} {i : Int32} (hs : sk a = .inl (1, len)) (ha : 75 ≤ a) : aI (enc c j w m n) a i = if i < 0 ∨ len ≤ i.toNatClampNeg then none else some (m a i.toNatClampNeg) := by
  unfold aI; rw [enc_at, hs]; simp [cellv, Nat.not_lt.mpr ha]
theorem aB_c {len : Nat} {i : Int32} (hs : sk a = .inl (0, len)) (ha : a < 75) : aB (enc c j w m n) a i = if i < 0 ∨ len ≤ i.toNatClampNeg then none else some (c a i.toNatClampNeg) := by
  unfold aB; rw [enc_at, hs]; simp [cellv, ha]
theorem aJ_c {len : Nat} {i : Int32} (hs : sk a = .inl (2, len)) (ha : a < 75) : aJ (enc c j w m n) a i = if i < 0 ∨ len ≤ i.toNatClampNeg then none else some (j a i.toNatClampNeg) := by
  unfold aJ; rw [enc_at, hs]; simp [cellv, ha]
theorem aJ_m {len : Nat} {i : Int32} (hs : sk a = .inl (2, len)) (ha : 75 ≤ a) : aJ (enc c j w m n) a i = if i < 0 ∨ len ≤ i.toNatClampNeg then none else some (n a i.toNatClampNeg) := by
  unfold aJ; rw [enc_at, hs]; simp [cellv, Nat.not_lt.mpr ha]
theorem aR_c {len : Nat} {i : Int32} (hs : sk a = .inl (3, len)) : aR (enc c j w m n) a i = if i < 0 ∨ len ≤ i.toNatClampNeg then none else (if i.toNatClampNeg < 3 then some (41 + 5 * i.toNatClampNeg) else none) := by
  unfold aR; rw [enc_at, hs]; simp [cellv]
theorem sI_c {len : Nat} {i x : Int32} (hs : sk a = .inl (1, len)) (ha : a < 75) : sI (enc c j w m n) a i x = if i < 0 ∨ len ≤ i.toNatClampNeg then none else some (enc (va_up c a (upd (c a) i.toNatClampNeg x)) j w m n) := by
  unfold sI; rw [enc_at, hs]; simp only [cellv, if_pos ha]
  split
  · rfl
  · refine congrArg some (Prod.ext rfl (funext fun y => ?_))
    simp only [va_up, enc]
    by_cases hy : y = a
    · subst hy; simp [hs, cellv, ha]
    · simp [hy]
theorem sI_m {len : Nat} {i x : Int32} (hs : sk a = .inl (1, len)) (ha : 75 ≤ a) : sI (enc c j w m n) a i x = if i < 0 ∨ len ≤ i.toNatClampNeg then none else some (enc c j w (va_up m a (upd (m a) i.toNatClampNeg x)) n) := by
  have ha' := Nat.not_lt.mpr ha
  unfold sI; rw [enc_at, hs]; simp only [cellv, if_neg ha']
  split
  · rfl
  · refine congrArg some (Prod.ext rfl (funext fun y => ?_))
    simp only [va_up, enc]
    by_cases hy : y = a
    · subst hy; simp [hs, cellv, ha']
    · simp [hy]
theorem sB_c {len : Nat} {i x : Int32} (hs : sk a = .inl (0, len)) (ha : a < 75) : sB (enc c j w m n) a i x = if i < 0 ∨ len ≤ i.toNatClampNeg then none else some (enc (va_up c a (upd (c a) i.toNatClampNeg (vp_nar .byte x))) j w m n) := by
  unfold sB; rw [enc_at, hs]; simp only [cellv, if_pos ha]
  split
  · rfl
  · refine congrArg some (Prod.ext rfl (funext fun y => ?_))
    simp only [va_up, enc]
    by_cases hy : y = a
    · subst hy; simp [hs, cellv, ha]
    · simp [hy]
theorem sJ_c {len : Nat} {i : Int32} {x : Int64} (hs : sk a = .inl (2, len)) (ha : a < 75) : sJ (enc c j w m n) a i x = if i < 0 ∨ len ≤ i.toNatClampNeg then none else some (enc c (va_up j a (vp_updL (j a) i.toNatClampNeg x)) w m n) := by
  unfold sJ; rw [enc_at, hs]; simp only [cellv, if_pos ha]
  split
  · rfl
  · refine congrArg some (Prod.ext rfl (funext fun y => ?_))
    simp only [va_up, enc]
    by_cases hy : y = a
    · subst hy; simp [hs, cellv, ha]
    · simp [hy]
theorem sJ_m {len : Nat} {i : Int32} {x : Int64} (hs : sk a = .inl (2, len)) (ha : 75 ≤ a) : sJ (enc c j w m n) a i x = if i < 0 ∨ len ≤ i.toNatClampNeg then none else some (enc c j w m (va_up n a (vp_updL (n a) i.toNatClampNeg x))) := by
  have ha' := Nat.not_lt.mpr ha
  unfold sJ; rw [enc_at, hs]; simp only [cellv, if_neg ha']
  split
  · rfl
  · refine congrArg some (Prod.ext rfl (funext fun y => ?_))
    simp only [va_up, enc]
    by_cases hy : y = a
    · subst hy; simp [hs, cellv, ha']
    · simp [hy]
theorem aN_I {len : Nat} (hs : sk a = .inl (1, len)) : aN (enc c j w m n) a = some (nI len) := by
  unfold aN; rw [enc_at, hs]; simp [cellv]
theorem aN_B {len : Nat} (hs : sk a = .inl (0, len)) : aN (enc c j w m n) a = some (nI len) := by
  unfold aN; rw [enc_at, hs]; simp [cellv]
theorem aN_J {len : Nat} (hs : sk a = .inl (2, len)) : aN (enc c j w m n) a = some (nI len) := by
  unfold aN; rw [enc_at, hs]; simp [cellv]
theorem aN_R {len : Nat} (hs : sk a = .inl (3, len)) : aN (enc c j w m n) a = some (nI len) := by
  unfold aN; rw [enc_at, hs]; simp [cellv]
theorem pF_w {q r : Nat} (hs : sk a = .inr (ci, fs)) (hf : fs[f]? = some (3, q)) (ho : ∀ x, x ≠ a → noW q (sk x) = true) (hi : ∀ (i k : Nat), fs[i]? = some (k, q) → k = 3 → i = f) : pF (enc c j w m n) a ci f (.ref r) = some (enc c j (va_up w q r) m n) := by
  refine pF_enc hs (List.getElem?_eq_some_iff.mp hf).1 (fun x hx => cellv_w (ho x hx)) fun i q' hq => ?_
  by_cases e : i = f
  · subst e; rw [hf] at hq; cases hq; simp [fldv, va_up]
  · rw [if_neg e]
    rcases q' with ⟨q1, q2⟩
    refine fldv_w fun e1 => e (hi i 3 ?_ rfl)
    rw [hq, e1]
end
theorem bd_eq {α β : Type} (x : α) (h : Hp) (K : α → Hp → Option β) : bd (some (x, h)) K = K x h := rfl
theorem pin_eq {α β : Type} (x : α) (K : α → Option β) : pin x K = K x := rfl
theorem cV_eq {α β : Type} {h : Hp} {a ci : Nat} {o : Option (α × Hp)} {K : α → Hp → Option β} (e : isC h a ci = true) : cV h a ci o K = bd o K := by unfold cV; rw [if_pos e]
/-- loops that count up -/
theorem loop_up {α : Type} {z : α} {s : α → α} (N : Nat) (Q : Nat → α → Prop) (hb : ∀ i f, i < N → Q (i + 1) f → Q i (s f)) (he : ∀ f, Q N (s f)) : ∀ (q i : Nat), i ≤ N → N - i < q → Q i (loopN z s q)
  | 0, i, _, h => absurd h (Nat.not_lt_zero _)
  | q + 1, i, hi, h => by
    show Q i (s (loopN z s q))
    rcases Nat.lt_or_eq_of_le hi with h1 | h1
    · exact hb i _ h1 (loop_up N Q hb he q (i + 1) h1 (by omega))
    · subst h1; exact he _
