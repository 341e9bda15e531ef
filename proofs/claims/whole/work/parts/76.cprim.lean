/-! what is read: the pure side, and the class's steps -/
def wdt (t : Nat) : Nat := if t = 2 then 4 else if t = 3 ∨ t = 4 then 1 else 2
def cap (t : Nat) : Nat := [5, 4, 12, 4, 6, 4, 3].getD t 0
def colV (V : Nat → Nat → Nat) (t q i : Nat) : Nat :=
  if t = 0 then (if q = 0 then V 0 i else V 1 i)
  else if t = 1 then (if q = 0 then V 2 i else lkM (V 2 i))
  else if t = 2 then (if q = 0 then V 11 i else if q = 1 then V 3 i else if q = 2 then V 12 i else V 4 i)
  else if t = 3 then V 5 i
  else if t = 4 then V 6 i
  else if t = 5 then (if q = 0 then V 7 i else V 8 i)
  else (if q = 0 then V 9 i else V 10 i)
def RV2 (c : Nat → Nat → Int32) (v : Nat) (V : Nat → Nat → Nat) : Prop :=
  (∀ t, t < 7 → c (v + 1 + 2 * t) 3 = nI (V 20 t)) ∧ (∀ f, f < 4 → c v (8 + f) = nI (V 20 (7 + f))) ∧
  ∀ t, t < 7 → ∀ i, i < V 20 t → ∀ q, q < wdt t → c (v + 2 + 2 * t) (i * wdt t + q) = nI (colV V t q i)
theorem RV2.rv {c : Nat → Nat → Int32} {v : Nat} {V : Nat → Nat → Nat} (h : RV2 c v V) : RV c v V := by
  obtain ⟨h1, h2, h3⟩ := h
  refine ⟨h1, h2, fun i hi => ⟨h3 0 (by omega) i hi 0 (by decide), h3 0 (by omega) i hi 1 (by decide)⟩, fun i hi => ⟨h3 1 (by omega) i hi 0 (by decide), h3 1 (by omega) i hi 1 (by decide)⟩, fun i hi => ⟨h3 2 (by omega) i hi 0 (by decide), h3 2 (by omega) i hi 1 (by decide), h3 2 (by omega) i hi 2 (by decide), h3 2 (by omega) i hi 3 (by decide)⟩, fun i hi => h3 3 (by omega) i hi 0 (by decide), fun i hi => h3 4 (by omega) i hi 0 (by decide), fun i hi => ⟨h3 5 (by omega) i hi 0 (by decide), h3 5 (by omega) i hi 1 (by decide)⟩, fun i hi => ⟨h3 6 (by omega) i hi 0 (by decide), h3 6 (by omega) i hi 1 (by decide)⟩⟩
/-- one row more -/
def ad (V : Nat → Nat → Nat) (t : Nat) (g : Nat → Option Nat) (a b : Nat) : Nat := if a = 20 then (if b = t then V 20 t + 1 else V 20 b) else if b = V 20 t then (g a).getD (V a b) else V a b
section
variable {V : Nat → Nat → Nat} {t : Nat} {g : Nat → Option Nat} {a b : Nat}
theorem ad_c : ad V t g 20 t = V 20 t + 1 := by unfold ad; rw [if_pos rfl, if_pos rfl]
theorem ad_o (h : b ≠ t) : ad V t g 20 b = V 20 b := by unfold ad; rw [if_pos rfl, if_neg h]
theorem ad_lt (ha : a ≠ 20) (h : b ≠ V 20 t) : ad V t g a b = V a b := by unfold ad; rw [if_neg ha, if_neg h]
theorem ad_at (ha : a ≠ 20) {x : Nat} (h : g a = some x) : ad V t g a (V 20 t) = x := by unfold ad; rw [if_neg ha, if_pos rfl, h]; rfl
theorem ad_no (ha : a ≠ 20) (h : g a = none) : ad V t g a b = V a b := by
  unfold ad; rw [if_neg ha]; split
  · rw [h]; rfl
  · rfl
end
theorem col_lt {V : Nat → Nat → Nat} {t : Nat} {g : Nat → Option Nat} {t' q i : Nat} (h : i ≠ V 20 t) : colV (ad V t g) t' q i = colV V t' q i := by
  unfold colV
  repeat' split
  all_goals first | exact ad_lt (by decide) h | rw [ad_lt (by decide) h]
/-- columns that a table has, and no other -/
def own (t a : Nat) : Bool := match t with
  | 0 => a == 0 || a == 1 || a == 13 || a == 15
  | 1 => a == 2 || a == 14 || a == 16
  | 2 => a == 3 || a == 4 || a == 11 || a == 12
  | 3 => a == 5
  | 4 => a == 6 || a == 17 || a == 18
  | 5 => a == 7 || a == 8
  | _ => a == 9 || a == 10 || a == 21 || a == 22
def GG (t : Nat) (g : Nat → Option Nat) : Prop := ∀ a, own t a = false → g a = none
theorem own_1 : ∀ t, t < 7 → ∀ t', t' < 7 → t ≠ t' → ∀ a, a < 23 → own t a = true → own t' a = false := by decide
theorem ad_ot {V : Nat → Nat → Nat} {t : Nat} {g : Nat → Option Nat} (hg : GG t g) {a b : Nat} (ha : a ≠ 20) (h : own t a = false) : ad V t g a b = V a b := ad_no ha (hg a h)
theorem col_ot {V : Nat → Nat → Nat} {t : Nat} {g : Nat → Option Nat} (hg : GG t g) {t' q i : Nat} (ht : t < 7) (ht' : t' < 7) (h : t ≠ t') : colV (ad V t g) t' q i = colV V t' q i := by
  have o : ∀ a, a < 23 → own t' a = true → own t a = false := fun a ha hh => by
    cases e : own t a with
    | false => rfl
    | true => have := own_1 t ht t' ht' h a ha e; rw [hh] at this; cases this
  unfold colV
  match t', ht' with
  | 0, _ => simp only [if_true]; rw [ad_ot hg (by decide) (o 0 (by decide) rfl), ad_ot hg (by decide) (o 1 (by decide) rfl)]
  | 1, _ => simp only [if_true, if_false, Nat.one_ne_zero, Nat.reduceEqDiff]; rw [ad_ot hg (by decide) (o 2 (by decide) rfl)]
  | 2, _ => simp only [if_true, if_false, Nat.reduceEqDiff]; rw [ad_ot hg (by decide) (o 11 (by decide) rfl), ad_ot hg (by decide) (o 3 (by decide) rfl), ad_ot hg (by decide) (o 12 (by decide) rfl), ad_ot hg (by decide) (o 4 (by decide) rfl)]
  | 3, _ => simp only [if_true, if_false, Nat.reduceEqDiff]; rw [ad_ot hg (by decide) (o 5 (by decide) rfl)]
  | 4, _ => simp only [if_true, if_false, Nat.reduceEqDiff]; rw [ad_ot hg (by decide) (o 6 (by decide) rfl)]
  | 5, _ => simp only [if_true, if_false, Nat.reduceEqDiff]; rw [ad_ot hg (by decide) (o 7 (by decide) rfl), ad_ot hg (by decide) (o 8 (by decide) rfl)]
  | 6, _ => simp only [if_true, if_false, Nat.reduceEqDiff]; rw [ad_ot hg (by decide) (o 9 (by decide) rfl), ad_ot hg (by decide) (o 10 (by decide) rfl)]
theorem V_T {v t : Nat} (hv : isV v) (ht : t < 7) : isT (v + 1 + 2 * t) (cap t) (wdt t) (v + 2 + 2 * t) := by
  match t, ht with
  | 0, _ => exact V_boys hv
  | 1, _ => exact V_offs hv
  | 2, _ => exact V_wats hv
  | 3, _ => exact V_noons hv
  | 4, _ => exact V_shoals hv
  | 5, _ => exact V_unsure hv
  | 6, _ => exact V_found hv
theorem cap_le (t : Nat) (h : t < 7) : cap t ≤ 12 ∧ 0 < wdt t ∧ wdt t ≤ 4 := by
  have : ∀ t, t < 7 → cap t ≤ 12 ∧ 0 < wdt t ∧ wdt t ≤ 4 := by decide
  exact this t h
section
variable {c : Nat → Nat → Int32} {j : Nat → Nat → Int64} {w : Nat → Nat} {m : Nat → Nat → Int32} {n : Nat → Nat → Int64} {T : Nat → Nat} {s p v : Nat} {V : Nat → Nat → Nat}
theorem c_addRow (hv : isV v) (h : RV2 c v V) {t : Nat} (ht : t < 7) (hc : V 20 t < cap t) {g : Nat → Option Nat} (hg : GG t g) {x0 x1 x2 x3 : Int32} (h0 : x0 = nI (colV (ad V t g) t 0 (V 20 t))) (h1 : 1 < wdt t → x1 = nI (colV (ad V t g) t 1 (V 20 t))) (h2 : 2 < wdt t → x2 = nI (colV (ad V t g) t 2 (V 20 t))) (h3 : 3 < wdt t → x3 = nI (colV (ad V t g) t 3 (V 20 t))) : ∃ c', X8_add (v + 1 + 2 * t) x0 x1 x2 x3 (enc c j w m n) = some (enc c' j w m n) ∧ RV2 c' v (ad V t g) ∧ (∀ y, (y < v ∨ v + 15 ≤ y) → c' y = c y) ∧ c' v = c v := by
  obtain ⟨r1, r2, r3⟩ := h
  obtain ⟨l1, l2, l3⟩ := cap_le t ht
  obtain ⟨c', e, f, q1, q2, y0, y1, y2, y3⟩ := T_add (c := c) (j := j) (w := w) (m := m) (n := n) (V_T hv ht) (r1 t ht) hc x0 x1 x2 x3 l2
  refine ⟨c', e, ⟨fun t' ht' => ?_, fun f' hf => ?_, fun t' ht' i hi q hq => ?_⟩, fun y hy => f y (by omega) (by omega), f v (by omega) (by omega)⟩
  · by_cases z : t' = t
    · subst z; rw [q1, ad_c]
    · rw [f _ (by omega) (by omega), r1 t' ht', ad_o z]
  · rw [f v (by omega) (by omega), r2 f' hf, ad_o (by omega)]
  · by_cases z : t' = t
    · subst z
      rw [ad_c] at hi
      by_cases y : i = V 20 t'
      · subst y
        rcases Nat.lt_or_ge q 1 with a | a
        · have q0 : q = 0 := by omega
          subst q0; exact y0.trans h0
        · rcases Nat.lt_or_ge q 2 with a | a
          · rw [show q = 1 by omega, y1 (by omega), h1 (by omega)]
          · rcases Nat.lt_or_ge q 3 with a | a
            · rw [show q = 2 by omega, y2 (by omega), h2 (by omega)]
            · rw [show q = 3 by omega, y3 (by omega), h3 (by omega)]
      · have : i * wdt t' + q < V 20 t' * wdt t' := by
          have : (i + 1) * wdt t' ≤ V 20 t' * wdt t' := Nat.mul_le_mul_right _ (by omega)
          rw [Nat.add_mul, Nat.one_mul] at this; omega
        rw [q2 _ this, r3 t' ht' i (by omega) q hq, col_lt y]
    · rw [ad_o z] at hi
      rw [f _ (by omega) (by omega), r3 t' ht' i hi q hq, col_ot hg ht ht' (Ne.symm z)]
end
/-- what is known of a voyage while it is read -/
def GP (T : Nat → Nat) (V : Nat → Nat → Nat) : Prop :=
  (∀ t, t < 7 → V 20 t ≤ cap t) ∧ (V 20 7 < 200 ∧ V 20 8 < 200 ∧ V 20 9 ≤ 100 ∧ V 20 10 ≤ 100) ∧ V 20 11 ≤ 1 ∧ (V 20 11 = 0 → ∀ t, t < 7 → V 20 t = 0) ∧ GN T V ∧
  (∀ i, i < V 20 0 → V 0 i < 3 ∧ V 1 i ≤ 20) ∧
  (∀ i, i < V 20 1 → 1 ≤ V 2 i ∧ V 2 i ≤ 9) ∧
  (∀ k, k < V 20 2 → V 11 k < V 20 0 ∧ V 3 k < V 20 1 ∧ V 12 k < 4 ∧ V 4 k ≤ 9) ∧
  (∀ i, i < V 20 3 → 1 ≤ V 5 i ∧ V 5 i ≤ 12) ∧
  (∀ i i', i < V 20 3 → i' < V 20 3 → V 5 i = V 5 i' → i = i') ∧
  (∀ i, i < V 20 4 → V 17 i < 200 ∧ V 18 i < 200 ∧ V 6 i = 1000 * (V 17 i + 300) + V 18 i + 300) ∧
  (∀ i, i < V 20 5 → V 7 i < V 20 0 ∧ V 8 i ≤ 20) ∧
  (∀ i, i < V 20 6 → V 9 i ≤ 12 ∧ V 21 i < 200 ∧ V 22 i < 200 ∧ V 10 i = 1000 * (V 21 i + 300) + V 22 i + 300) ∧
  (∀ b o, b < V 20 0 → o < V 20 1 → ¬ (V 15 b = V 16 o ∧ ∀ k, k < V 15 b → T (V 13 b + k) = T (V 14 o + k)))
def Out : Type := Sum (Nat × Nat) ((Nat → Nat → Nat) × Nat)
def Out.bad (f q : Nat) : Out := Sum.inl (f, q)
def Out.ok (V : Nat → Nat → Nat) (p : Nat) : Out := Sum.inr (V, p)
def nd (T : Nat → Nat) (s f p : Nat) (K : Out) : Out := if f = 0 then K else .bad f (stp T s p)
theorem nd_0 {T : Nat → Nat} {s f p : Nat} {K : Out} (h : f = 0) : nd T s f p K = K := if_pos h
theorem nd_1 {T : Nat → Nat} {s f p : Nat} {K : Out} (h : f ≠ 0) : nd T s f p K = .bad f (stp T s p) := if_neg h
def fWd (T : Nat → Nat) (s k p : Nat) : Nat := if isW T s k p then 0 else 1
def whq (T : Nat → Nat) (s p : Nat) : Int32 := wh T (stp T s p) (nxq T s p - stp T s p)
def whn (T : Nat → Nat) (s p : Nat) : Nat := (whq T s p).toNatClampNeg
def fNm (T : Nat → Nat) (s lo hi p : Nat) : Nat := if srt T s p = 2 then (if ¬ whq T s p < nI lo ∧ whq T s p ≤ nI hi then 0 else 4) else 1
def fNew (T : Nat → Nat) (s : Nat) (V : Nat → Nat → Nat) (p : Nat) : Nat := if srt T s p = 1 ∧ bgs T s p = false then (if fdx (nmB T s V 0 p) (V 20 0) < V 20 0 ∨ fdx (nmB T s V 1 p) (V 20 1) < V 20 1 then 3 else 0) else 1
def fOld (T : Nat → Nat) (s : Nat) (V : Nat → Nat → Nat) (r p : Nat) : Nat := if srt T s p = 1 ∧ bgs T s p = false then (if fdx (nmB T s V r p) (V 20 r) < V 20 r then 0 else 2) else 1
theorem whn_ok {T : Nat → Nat} {s lo hi p : Nat} (hh : hi < 1000) (hl : lo < 1000) (h : fNm T s lo hi p = 0) : srt T s p = 2 ∧ whq T s p = nI (whn T s p) ∧ lo ≤ whn T s p ∧ whn T s p ≤ hi := by
  unfold fNm at h
  split at h
  · rename_i h2
    split at h
    · rename_i h3
      have p0 : ¬ whq T s p < 0 := fun z => h3.1 (by
        rw [Int32.lt_iff_toInt_lt] at z ⊢
        rw [N_toInt (by omega)]
        have : (0 : Int32).toInt = 0 := rfl
        omega)
      obtain ⟨i, hi', e⟩ := n_pos p0
      have ew : whn T s p = i := by unfold whn; rw [e, N_tn hi']
      rw [e] at h3
      rw [N_lt (by omega) (by omega), N_le (by omega) (by omega)] at h3
      rw [ew]
      exact ⟨h2, e, by omega, h3.2⟩
    · cases h
  · cases h
/-- the class while it reads -/
def FC (c0 c : Nat → Nat → Int32) (v : Nat) : Prop := ∀ y, y ≠ 32 → (y < v ∨ v + 15 ≤ y) → c y = c0 y
def JC (c0 c : Nat → Nat → Int32) (j : Nat → Nat → Int64) (v : Nat) (T : Nat → Nat) (s : Nat) (V : Nat → Nat → Nat) (p : Nat) : Prop := CT c T s ∧ c 32 5 = nI p ∧ p ≤ s ∧ c 32 11 = 0 ∧ FC c0 c v ∧ RV2 c v V ∧ c v 7 = nI (V 20 11) ∧ CNm j T V
def BC (c0 c : Nat → Nat → Int32) (v f q : Nat) : Prop := FC c0 c v ∧ c 32 11 = nI f ∧ c 32 12 = nI q
section
variable {c0 c : Nat → Nat → Int32} {j : Nat → Nat → Int64} {w : Nat → Nat} {m : Nat → Nat → Int32} {n : Nat → Nat → Int64} {T : Nat → Nat} {s p v : Nat} {V : Nat → Nat → Nat}
theorem RV2.fr {c' : Nat → Nat → Int32} (hv : isV v) (h : RV2 c v V) (f : ∀ y, v ≤ y → y < v + 15 → c' y = c y) : RV2 c' v V := by
  obtain ⟨h1, h2, h3⟩ := h
  exact ⟨fun t ht => by rw [f _ (by omega) (by omega)]; exact h1 t ht, fun x hx => by rw [f _ (by omega) (by omega)]; exact h2 x hx, fun t ht i hi q hq => by rw [f _ (by omega) (by omega)]; exact h3 t ht i hi q hq⟩
theorem JC.ck {c' : Nat → Nat → Int32} {j' : Nat → Nat → Int64} {p' : Nat} (hv : isV v) (h : JC c0 c j v T s V p) (k : CK c c') (kj : ∀ y, y ≠ 32 → j' y = j y) (e : c' 32 5 = nI p') (hp : p' ≤ s) : JC c0 c' j' v T s V p' := by
  obtain ⟨h1, h2, h3, h4, h5, h6, h7, h8⟩ := h
  have hv' : v = 2 ∨ v = 17 := hv
  exact ⟨h1.ck k, e, hp, by rw [k.2 11 (by omega) (by omega) (by omega) (by omega)]; exact h4, fun y a b => by rw [k.1 y a]; exact h5 y a b, h6.fr hv fun y a b => k.1 y (by omega), by rw [k.1 v (by omega)]; exact h7, fun r hr i hi => by rw [kj _ (by omega)]; exact h8 r hr i hi⟩
/-- a token read -/
theorem c_rd (hv : isV v) (h : JC c0 c j v T s V p) : ∃ c' j', X5_readToken 32 (enc c j w m n) = some (enc c' j' w m n) ∧ JC c0 c' j' v T s V (nxq T s p) ∧ c' 32 6 = nI (srt T s p) ∧ c' 32 7 = nI (stp T s p) ∧ c' 32 9 = whq T s p ∧ j' 32 8 = wv T (stp T s p) (nxq T s p - stp T s p) := by
  obtain ⟨c', j', e, k, kj, d5, d6, d7, d9, d8⟩ := c_tok (j := j) (w := w) (m := m) (n := n) h.1 h.2.2.1 h.2.1
  exact ⟨c', j', e, h.ck hv k kj d5 (nxq_ok (T := T) h.2.2.1).2.1, d6, d7, d9, d8⟩
theorem c_fail (hv : isV v) (h : JC c0 c j v T s V p) {q f : Nat} (e7 : c 32 7 = nI q) : ∃ c', X5_fail 32 (nI f) (enc c j w m n) = some (0, enc c' j w m n) ∧ BC c0 c' v f q := by
  unfold X5_fail
  rw [F32_p11, ob_some, F32_7, ob_some, F32_p12, ob_some, rZ_0, v32 (by decide), e7]
  exact ⟨_, rfl, fun y a b => by rw [vup_ne _ _ a, vup_ne _ _ a]; exact h.2.2.2.2.1 y a b, by rw [v32 (by decide), u32], u32⟩
theorem c_wd1 (hv : isV v) (h : JC c0 c j v T s V p) {k : Nat} (hk : k < 44) (z : fWd T s k p = 0) : ∃ c' j', X5_nextIs 32 k (enc c j w m n) = some (1, enc c' j' w m n) ∧ JC c0 c' j' v T s V (nxq T s p) := by
  obtain ⟨c', j', e, h', d6, d7, d9, d8⟩ := c_rd (w := w) (m := m) (n := n) hv h
  have hw : isW T s k p = true := by
    unfold fWd at z; split at z
    · assumption
    · cases z
  refine ⟨c', j', ?_, h'⟩
  unfold X5_nextIs X5_nextIs_B20
  rw [cVv32, e, ob_some, cV32, c_is h.2.2.1 d6 d8 hk, hw, bd_eq, if_neg (by decide), rZ_1]
theorem c_wd0 (hv : isV v) (h : JC c0 c j v T s V p) {k : Nat} (hk : k < 44) (z : fWd T s k p ≠ 0) : ∃ c' j', X5_nextIs 32 k (enc c j w m n) = some (0, enc c' j' w m n) ∧ BC c0 c' v (fWd T s k p) (stp T s p) := by
  obtain ⟨c', j', e, h', d6, d7, d9, d8⟩ := c_rd (w := w) (m := m) (n := n) hv h
  have hw : isW T s k p = false := by
    cases q : isW T s k p with
    | false => rfl
    | true => exact absurd (by unfold fWd; rw [q]; rfl) z
  have hf : fWd T s k p = 1 := by unfold fWd; rw [hw]; rfl
  obtain ⟨c2, e2, b2⟩ := c_fail (w := w) (m := m) (n := n) (f := 1) hv h' d7
  refine ⟨c2, j', ?_, by rw [hf]; exact b2⟩
  unfold X5_nextIs
  rw [cVv32, e, ob_some, cV32, c_is h.2.2.1 d6 d8 hk, hw, bd_eq, if_pos (by decide), cV32, show (1 : Int32) = nI 1 from rfl, e2, bd_eq, if_pos rfl, rZ_0]
theorem c_nm1 (hv : isV v) (h : JC c0 c j v T s V p) {lo hi : Nat} (hl : lo < 1000) (hh : hi < 1000) (z : fNm T s lo hi p = 0) : ∃ c' j', X5_nextWhole 32 (nI lo) (nI hi) (enc c j w m n) = some (1, enc c' j' w m n) ∧ JC c0 c' j' v T s V (nxq T s p) ∧ c' 32 9 = nI (whn T s p) ∧ c' 32 7 = nI (stp T s p) := by
  obtain ⟨c', j', e, h', d6, d7, d9, d8⟩ := c_rd (w := w) (m := m) (n := n) hv h
  obtain ⟨z1, z2, z3, z4⟩ := whn_ok hh hl z
  refine ⟨c', j', ?_, h', by rw [d9, z2], d7⟩
  unfold X5_nextWhole X5_nextWhole_B42
  rw [cVv32, e, ob_some, F32_6, ob_some, d6, z1, if_pos (show nI 2 = 2 from rfl), F32_9, ob_some, d9, z2, if_neg (by rw [N_lt (by omega) (by omega)]; omega), ob_some, if_pos (by rw [N_le (by omega) (by omega)]; omega), rZ_1]
theorem c_nm0 (hv : isV v) (h : JC c0 c j v T s V p) {lo hi : Nat} (z : fNm T s lo hi p ≠ 0) : ∃ c' j', X5_nextWhole 32 (nI lo) (nI hi) (enc c j w m n) = some (0, enc c' j' w m n) ∧ BC c0 c' v (fNm T s lo hi p) (stp T s p) := by
  obtain ⟨c', j', e, h', d6, d7, d9, d8⟩ := c_rd (w := w) (m := m) (n := n) hv h
  have h4 := srt_le (T := T) h.2.2.1
  by_cases q : srt T s p = 2
  · obtain ⟨c2, e2, b2⟩ := c_fail (w := w) (m := m) (n := n) (f := 4) hv h' d7
    have hz : ¬ (¬ whq T s p < nI lo ∧ whq T s p ≤ nI hi) := fun y => z (by unfold fNm; rw [if_pos q, if_pos y])
    have hf : fNm T s lo hi p = 4 := by unfold fNm; rw [if_pos q, if_neg hz]
    refine ⟨c2, j', ?_, by rw [hf]; exact b2⟩
    unfold X5_nextWhole X5_nextWhole_B34
    rw [cVv32, e, ob_some, F32_6, ob_some, d6, q, if_pos (show nI 2 = 2 from rfl), F32_9, ob_some, d9, show (4 : Int32) = nI 4 from rfl]
    by_cases y : whq T s p < nI lo
    · rw [if_pos y, cV32, e2, bd_eq, if_pos rfl, rZ_0]
    · rw [if_neg y, ob_some, if_neg (fun x => hz ⟨y, x⟩), cV32, e2, bd_eq, if_pos rfl, rZ_0]
  · obtain ⟨c2, e2, b2⟩ := c_fail (w := w) (m := m) (n := n) (f := 1) hv h' d7
    have hf : fNm T s lo hi p = 1 := by unfold fNm; rw [if_neg q]
    refine ⟨c2, j', ?_, by rw [hf]; exact b2⟩
    unfold X5_nextWhole
    rw [cVv32, e, ob_some, F32_6, ob_some, d6, if_neg (by rw [show (2 : Int32) = nI 2 from rfl, N_inj (by omega) (by omega)]; exact q), cV32, show (1 : Int32) = nI 1 from rfl, e2, bd_eq, rZ_0]
end
