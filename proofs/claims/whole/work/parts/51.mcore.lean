/-! the reference: what is stolen, where the ship comes to -/
def MV (m : Nat → Nat → Int32) (a : Nat) (V : Nat → Nat → Nat) : Prop :=
  (m a 0 = nI (V 20 9) ∧ m a 1 = nI (V 20 10) ∧ m a 10 = nI (V 20 7) ∧ m a 11 = nI (V 20 8)) ∧
  (∀ t, t < 7 → m a (2 + t) = nI (V 20 t)) ∧
  (∀ i, i < V 20 0 → m a (12 + 2 * i) = nI (V 0 i) ∧ m a (12 + 2 * i + 1) = nI (V 1 i)) ∧
  (∀ i, i < V 20 1 → m a (22 + i) = nI (V 2 i)) ∧
  (∀ k, k < V 20 2 → m a (26 + 2 * k) = nI (V 3 k) ∧ m a (26 + 2 * k + 1) = nI (V 4 k)) ∧
  (∀ i, i < V 20 3 → m a (50 + i) = nI (V 5 i)) ∧
  (∀ i, i < V 20 4 → ∃ x y, x < 200 ∧ y < 200 ∧ m a (54 + 2 * i) = nI x ∧ m a (54 + 2 * i + 1) = nI y ∧ V 6 i = 1000 * (x + 300) + y + 300) ∧
  (∀ i, i < V 20 5 → m a (66 + 2 * i) = nI (V 7 i) ∧ m a (66 + 2 * i + 1) = nI (V 8 i)) ∧
  (∀ i, i < V 20 6 → ∃ x y, x < 200 ∧ y < 200 ∧ m a (74 + 3 * i) = nI (V 9 i) ∧ m a (74 + 3 * i + 1) = nI x ∧ m a (74 + 3 * i + 2) = nI y ∧ V 10 i = 1000 * (x + 300) + y + 300)
/-- a row of the reference stands for K -/
def MK (m : Nat → Nat → Int32) (a o : Nat) (V K : Nat → Nat → Nat) : Prop :=
  (∀ k, k < V 20 2 → m a (o + k) = nI (K 1 k) ∧ m a (o + (12 + k)) = nI (K 0 k)) ∧
  ∃ M, M < 4096 ∧ m a (o + 24) = nI M ∧ ∀ k, k < V 20 2 → M.testBit k = (K 2 k == 1)
def ME (m : Nat → Nat → Int32) (V : Nat → Nat → Nat) (E : Nat → Nat) : Prop := ∀ b, b < V 20 0 → m 86 b = nI (E b)
theorem MV.fr {m m' : Nat → Nat → Int32} {a : Nat} {V : Nat → Nat → Nat} (h : MV m a V) (e : m' a = m a) : MV m' a V := by unfold MV; rw [e]; exact h
theorem MK.fr {m m' : Nat → Nat → Int32} {a o : Nat} {V K : Nat → Nat → Nat} (h : MK m a o V K) (e : m' a = m a) : MK m' a o V K := by unfold MK; rw [e]; exact h
theorem lkM_bit : ∀ e, e < 10 → 1 ≤ e → ∀ g, g < 8 → (lkM e).testBit g = decide ((g + 1) % e = 0) := by decide
theorem b255 : ∀ g, g < 8 → (255 : Nat).testBit g = true := by decide
theorem lkOf_bit {V K : Nat → Nat → Nat} (g : GV V) (gk : GK V K) {k i : Nat} (hk : k < V 20 2) (hi : i < 8) : (lkOf V K k).testBit i = ((K 2 k == 1) || decide ((i + 1) % V 2 (V 3 k) = 0)) := by
  have h1 := (gk k hk).2.2
  have h2 := g.2.2.2.1 _ (g.2.2.2.2.1 k hk).2.1
  unfold lkOf
  by_cases e : K 2 k = 0
  · rw [if_pos e, lkM_bit _ (by omega) h2.1 i hi, e]; rfl
  · have : K 2 k = 1 := by omega
    rw [if_neg e, b255 i hi, this]; rfl
theorem pop_cnt : ∀ x : Nat, x < 256 → pop8 x = cnt (bits x) 8 := by decide +kernel
theorem sum_two (b : Nat → Bool) (x y : Nat) : ∀ N, sumN (fun g => if b g then x else y) N = cnt b N * x + (N - cnt b N) * y ∧ cnt b N ≤ N
  | 0 => by simp [sumN, cnt]
  | N + 1 => by
    obtain ⟨h1, h2⟩ := sum_two b x y N
    have hc : cnt b (N + 1) = cnt b N + (if b N then 1 else 0) := rfl
    rw [sumN, h1, hc]
    cases b N with
    | true =>
      simp only [if_true]
      refine ⟨?_, by omega⟩
      rw [Nat.add_mul, Nat.one_mul, show N + 1 - (cnt b N + 1) = N - cnt b N by omega]; omega
    | false =>
      simp only [if_false, Bool.false_eq_true, Nat.add_zero]
      refine ⟨?_, by omega⟩
      rw [show N + 1 - cnt b N = (N - cnt b N) + 1 by omega, Nat.add_mul, Nat.one_mul]; omega
theorem stl_sum {V K : Nat → Nat → Nat} {E : Nat → Nat} (g : GV V) {k : Nat} (hk : k < V 20 2) : sumN (erG V K E k) 8 = stl V K E k := by
  have hlt := lkOf_lt (K := K) g hk
  have := (sum_two (bits (lkOf V K k)) (earOf V K E k true) (earOf V K E k false) 8).1
  unfold stl
  rw [pop_cnt _ hlt, ← this]
  congr 1
  funext i
  unfold erG bits
  cases (lkOf V K k).testBit i <;> rfl
section
variable {c : Nat → Nat → Int32} {j : Nat → Nat → Int64} {w : Nat → Nat} {m : Nat → Nat → Int32} {n : Nat → Nat → Int64} {V K : Nat → Nat → Nat} {E L : Nat → Nat} {S : Nat → Bool}
theorem m_lay (g : GV V) (hV : MV m 78 V) {a : Nat} {la : Nat} (ha : sk a = .inl (1, la)) (h1 : 75 < a) (h2 : a < 85) (hla : 25 ≤ la) (hla' : la ≤ 900) (hK : MK m a 0 V K) {s : Nat} (hs : s < 65536) : ∃ m', X11_lay 75 a (nI s) (enc c j w m n) = some (enc c j w m' n) ∧ (∀ y, y ≠ 75 → y ≠ 85 → y ≠ 86 → m' y = m y) ∧ (∀ f, f ≠ 31 → f ≠ 33 → m' 75 f = m 75 f) ∧ m' 75 31 = 0 ∧ m' 75 33 = 0 ∧ MK m' 85 0 V K ∧ ME m' V (eS V s) := by
  have g5 := g.1.1
  have g4 := g.1.2.2.2.2.2.1
  have g12 := g.1.2.2.1
  obtain ⟨m1, e1, f1, c1, -⟩ := m_copy (c := c) (j := j) (w := w) (m := m) (n := n) (a := a) (o := 0) (b := 85) (p := 0) (q := 25) (la := la) (lb := 25) ha rfl (by omega) (by decide) hla' (by decide) (by omega) (by omega) (by omega)
  have hK1 : MK m1 85 0 V K := by
    obtain ⟨k1, M, hM, k2, k3⟩ := hK
    refine ⟨fun k hk => ?_, M, hM, ?_, k3⟩
    · have := k1 k hk
      rw [c1 k (by omega), c1 (12 + k) (by omega)]; exact this
    · rw [c1 24 (by omega)]; exact k2
  have L2 : ∀ m2 : Nat → Nat → Int32, (∀ y, y ≠ 86 → m2 y = m1 y) → ME m2 V (V 1) → ∃ m', X11_lay_L51 5000 75 (nI s) 0 (enc c j w m2 n) = some (enc c j w m' n) ∧ (∀ y, y ≠ 75 → y ≠ 85 → y ≠ 86 → m' y = m y) ∧ (∀ f, f ≠ 31 → f ≠ 33 → m' 75 f = m 75 f) ∧ m' 75 31 = 0 ∧ m' 75 33 = 0 ∧ MK m' 85 0 V K ∧ ME m' V (eS V s) := by
    intro m2 f2 e2
    refine loop_up (z := fun _ _ _ _ => none) (s := X11_lay_L51_s) (V 20 5) (fun i f => ∀ m3 : Nat → Nat → Int32, (∀ y, y ≠ 86 → m3 y = m1 y) → ME m3 V (wE V (V 1) (bits s) i) → ∃ m', f 75 (nI s) (nI i) (enc c j w m3 n) = some (enc c j w m' n) ∧ (∀ y, y ≠ 75 → y ≠ 85 → y ≠ 86 → m' y = m y) ∧ (∀ f, f ≠ 31 → f ≠ 33 → m' 75 f = m 75 f) ∧ m' 75 31 = 0 ∧ m' 75 33 = 0 ∧ MK m' 85 0 V K ∧ ME m' V (eS V s)) ?_ ?_ 5000 0 (Nat.zero_le _) (by omega) m2 f2 e2
    · intro i f hi ih m3 f3 e3
      have hV3 : MV m3 78 V := hV.fr (by rw [f3 78 (by omega), f1 78 (by omega)])
      have q := hV3.2.2.2.2.2.2.2.1 i hi
      have hb := g.2.2.2.2.2.2.2.2.1 i hi
      unfold X11_lay_L51_s X11_lay_B99
      rw [R75_15, ob_some, show (7 : Int32) = nI 7 from rfl, M78 (by omega), ob_some, show m3 78 7 = nI (V 20 5) from hV3.2.1 5 (by omega), if_neg (by rw [N_le (by omega) (by omega)]; omega), m_hasBit (by omega) (by omega), bd_eq, show nI i + 1 = nI (i + 1) from N_add i 1]
      cases e : s.testBit i with
      | false =>
        rw [if_pos (show (if false = true then (1 : Int32) else 0) = 0 by decide)]
        refine ih m3 f3 ?_
        unfold wE; rw [show bits s i = false from e]; exact e3
      | true =>
        rw [if_neg (show ¬ (if true = true then (1 : Int32) else 0) = 0 by decide), R75_25, ob_some, R75_15, ob_some, show (66 : Int32) + 2 * nI i = nI (66 + 2 * i) from IX 66 i, M78 (by omega), ob_some, ob_some, show nI (66 + 2 * i) + 1 = nI (66 + 2 * i + 1) from N_add _ 1, M78 (by omega), ob_some, q.1, q.2, S86 (by omega), ob_some]
        refine ih _ (fun y hy => by simp only [va_up, if_neg hy]; exact f3 y hy) fun b hb' => ?_
        simp only [va_up, if_true, upd]
        unfold wE; rw [show bits s i = true from e, if_pos rfl]
        by_cases e2 : b = V 7 i
        · subst e2; rw [if_pos rfl, if_pos rfl]
        · rw [if_neg e2, if_neg e2]; exact e3 b hb'
    · intro f m3 f3 e3
      have hV3 : MV m3 78 V := hV.fr (by rw [f3 78 (by omega), f1 78 (by omega)])
      unfold X11_lay_L51_s
      rw [R75_15, ob_some, show (7 : Int32) = nI 7 from rfl, M78 (by omega), ob_some, show m3 78 7 = nI (V 20 5) from hV3.2.1 5 (by omega), if_pos (by rw [N_le (by omega) (by omega)]; omega), P75_31, ob_some, pZ_0, P75_33, ob_some]
      refine ⟨_, rfl, fun y h1 h2 h3 => ?_, fun f h1 h2 => ?_, ?_, ?_, ?_, fun b hb => ?_⟩
      · simp only [va_up, if_neg h1]; rw [f3 y h3, f1 y h2]
      · simp only [va_up, if_true, upd, if_neg h1, if_neg h2]; rw [f3 75 (by omega), f1 75 (by omega)]
      · simp [va_up, upd]
      · simp [va_up, upd]
      · exact hK1.fr (by simp only [va_up]; rw [if_neg (by omega), if_neg (by omega), f3 85 (by omega)])
      · simp only [va_up]; rw [if_neg (by omega), if_neg (by omega)]; exact e3 b hb
  unfold X11_lay
  rw [R75_24, ob_some, show (0 : Int32) = nI 0 from rfl, show (25 : Int32) = nI 25 from rfl, e1, ob_some]
  refine loop_up (z := fun _ _ _ _ => none) (s := X11_lay_L14_s) (V 20 0) (fun i f => ∀ m2 : Nat → Nat → Int32, (∀ y, y ≠ 86 → m2 y = m1 y) → (∀ b, b < i → m2 86 b = nI (V 1 b)) → ∃ m', f 75 (nI s) (nI i) (enc c j w m2 n) = some (enc c j w m' n) ∧ (∀ y, y ≠ 75 → y ≠ 85 → y ≠ 86 → m' y = m y) ∧ (∀ f, f ≠ 31 → f ≠ 33 → m' 75 f = m 75 f) ∧ m' 75 31 = 0 ∧ m' 75 33 = 0 ∧ MK m' 85 0 V K ∧ ME m' V (eS V s)) ?_ ?_ 5000 0 (Nat.zero_le _) (by omega) m1 (fun _ _ => rfl) (fun b h => absurd h (Nat.not_lt_zero _))
  · intro i f hi ih m2 f2 e2
    have hV2 : MV m2 78 V := hV.fr (by rw [f2 78 (by omega), f1 78 (by omega)])
    have q := hV2.2.2.1 i hi
    unfold X11_lay_L14_s
    rw [R75_15, ob_some, show (2 : Int32) = nI 2 from rfl, M78 (by omega), ob_some, show m2 78 2 = nI (V 20 0) from hV2.2.1 0 (by omega), if_neg (by rw [N_le (by omega) (by omega)]; omega), R75_25, ob_some, ob_some, show (12 : Int32) + nI 2 * nI i + 1 = nI (12 + 2 * i + 1) from IX1 12 i, M78 (by omega), ob_some, q.2, S86 (by omega), ob_some, show nI i + 1 = nI (i + 1) from N_add i 1]
    refine ih _ (fun y hy => by simp only [va_up, if_neg hy]; exact f2 y hy) fun b hb => ?_
    simp only [va_up, if_true, upd]
    by_cases e : b = i
    · subst e; rw [if_pos rfl]
    · rw [if_neg e]; exact e2 b (by omega)
  · intro f m2 f2 e2
    have hV2 : MV m2 78 V := hV.fr (by rw [f2 78 (by omega), f1 78 (by omega)])
    unfold X11_lay_L14_s
    rw [R75_15, ob_some, show (2 : Int32) = nI 2 from rfl, M78 (by omega), ob_some, show m2 78 2 = nI (V 20 0) from hV2.2.1 0 (by omega), if_pos (by rw [N_le (by omega) (by omega)]; omega)]
    exact L2 m2 f2 e2
theorem m_look (g : GV V) (gk : GK V K) (hV : MV m 78 V) (hK : MK m 85 0 V K) {k i : Nat} (hk : k < V 20 2) (hi : i < 8) : X11_doesLook 75 (nI k) (nI (i + 1)) (enc c j w m n) = some (if (lkOf V K k).testBit i then 1 else 0, enc c j w m n) := by
  have g12 := g.1.2.2.1
  have g4 := g.1.2.1
  obtain ⟨k1, M, hM, k2, k3⟩ := hK
  have ho := (g.2.2.2.2.1 k hk).2.1
  have hev := g.2.2.2.1 _ ho
  unfold X11_doesLook X11_doesLook_B38
  rw [lkOf_bit g gk hk hi, R75_24, ob_some, show (24 : Int32) = nI 24 from rfl, M85 (by omega), ob_some, show m 85 24 = nI M from k2, m_hasBit (by omega) (by omega), bd_eq, k3 k hk]
  cases e : K 2 k == 1 with
  | true => rw [if_neg (show ¬ (if true = true then (1 : Int32) else 0) = 0 by decide), rZ_1]; rfl
  | false =>
    rw [if_pos (show (if false = true then (1 : Int32) else 0) = 0 by decide), R75_15, ob_some, ob_some, show (26 : Int32) + 2 * nI k = nI (26 + 2 * k) from IX 26 k, M78 (by omega), ob_some, (hV.2.2.2.2.1 k hk).1, show (22 : Int32) + nI (V 3 k) = nI (22 + V 3 k) from N_add 22 _, M78 (by omega), ob_some, hV.2.2.2.1 _ ho, if_neg (by rw [show (0 : Int32) = nI 0 from rfl, N_inj (by omega) (by omega)]; omega), N_mod (by omega) (by omega)]
    have hm : (i + 1) % V 2 (V 3 k) < 2147483648 := Nat.lt_of_le_of_lt (Nat.mod_le _ _) (by omega)
    by_cases e2 : (i + 1) % V 2 (V 3 k) = 0
    · rw [if_pos (by rw [e2]; rfl), rZ_1]; simp [e2]
    · rw [if_neg (by rw [show (0 : Int32) = nI 0 from rfl, N_inj hm (by omega)]; exact e2), rZ_0]; simp [e2]
theorem m_early (g : GV V) (gk : GK V K) (ge : GE V E) (hV : MV m 78 V) (hK : MK m 85 0 V K) (hE : ME m V E) {k i : Nat} (hk : k < V 20 2) (hi : i < 8) : X11_earlyAt 75 (nI k) (nI (i + 1)) (enc c j w m n) = some (nI (erG V K E k i), enc c j w m n) := by
  have g12 := g.1.2.2.1
  have g5 := g.1.1
  have hb := (gk k hk).1
  have hkd := (g.2.2.1 _ hb).1
  have he := ge _ hb
  have hl := m_look (c := c) (j := j) (w := w) (n := n) g gk hV hK hk hi
  have B : X11_earlyAt_B45 75 (nI k) (nI (i + 1)) (nI (K 0 k)) (enc c j w m n) = some (nI (if (lkOf V K k).testBit i then E (K 0 k) / 2 else E (K 0 k)), enc c j w m n) := by
    unfold X11_earlyAt_B45
    rw [cV_eq C75, hl, bd_eq]
    cases (lkOf V K k).testBit i with
    | true => rw [if_neg (show ¬ (if true = true then (1 : Int32) else 0) = 0 by decide), R75_25, ob_some, M86 (by omega), ob_some, hE _ hb, show (2 : Int32) = nI 2 from rfl, N_div (by omega) (by omega)]; rfl
    | false => rw [if_pos (show (if false = true then (1 : Int32) else 0) = 0 by decide), R75_25, ob_some, M86 (by omega), ob_some, hE _ hb]; rfl
  unfold X11_earlyAt
  rw [R75_24, ob_some, show (12 : Int32) + nI k = nI (12 + k) from N_add 12 k, M85 (by omega), ob_some, show m 85 (12 + k) = nI (K 0 k) by have := (hK.1 k hk).2; rwa [Nat.zero_add] at this, R75_15, ob_some, show (12 : Int32) + 2 * nI (K 0 k) = nI (12 + 2 * K 0 k) from IX 12 _, M78 (by omega), ob_some, (hV.2.2.1 _ hb).1]
  unfold erG earOf ear
  by_cases e0 : V 0 (K 0 k) = 0
  · rw [if_pos (by rw [e0]; rfl), if_pos e0]; rfl
  · rw [if_neg (by rw [show (0 : Int32) = nI 0 from rfl, N_inj (by omega) (by omega)]; exact e0), if_neg e0]
    by_cases e1 : V 0 (K 0 k) = 1
    · rw [if_pos (by rw [e1]; rfl), cV_eq C75, hl, bd_eq, B]
      cases (lkOf V K k).testBit i with
      | true => rw [if_neg (show ¬ (if true = true then (1 : Int32) else 0) = 0 by decide), if_pos rfl, if_neg (by omega)]; rfl
      | false => rw [if_pos (show (if false = true then (1 : Int32) else 0) = 0 by decide)]; rfl
    · rw [if_neg (by rw [show (1 : Int32) = nI 1 from rfl, N_inj (by omega) (by omega)]; exact e1), B]
      rw [if_pos (show V 0 (K 0 k) = 2 by omega)]
/-- without draws, and with -/
def dwL (V K : Nat → Nat → Nat) (E : Nat → Nat) (D : Bool) (s k : Nat) : Nat := if D then drL V K E s k else stl V K E k
def dwS (V K : Nat → Nat → Nat) (E : Nat → Nat) (D : Bool) (s k : Nat) : Nat := if D then drS V K E s k else s
def RD (m : Nat → Nat → Int32) (D : Bool) (s : Nat) : Prop := m 75 33 = (if D then 1 else 0) ∧ (D = true → m 75 32 = nI s ∧ s < 65537)
theorem m_stolen (g : GV V) (gk : GK V K) (ge : GE V E) (hV : MV m 78 V) (hK : MK m 85 0 V K) (hE : ME m V E) {k : Nat} (hk : k < V 20 2) {D : Bool} {s : Nat} (hD : RD m D s) : ∃ m', X11_stolenOf 75 (nI k) (enc c j w m n) = some (nI (if D then (drF (V 20 10) (erG V K E k) s 8).1 else stl V K E k), enc c j w m' n) ∧ (∀ y, y ≠ 75 → m' y = m y) ∧ (∀ f, f ≠ 32 → m' 75 f = m 75 f) ∧ (D = true → m' 75 32 = nI (drF (V 20 10) (erG V K E k) s 8).2) := by
  have gi := g.2.1.2.2.2
  cases D with
  | false =>
    refine ⟨m, ?_, fun _ _ => rfl, fun _ _ => rfl, fun h => by cases h⟩
    rw [if_neg (by decide), ← stl_sum g hk]
    have L : ∀ (q i : Nat), i ≤ 8 → 8 - i < q → X11_stolenOf_L4 q 75 (nI k) (nI (sumN (erG V K E k) i)) (nI (i + 1)) (enc c j w m n) = some (nI (sumN (erG V K E k) 8), enc c j w m n) := by
      refine loop_up (z := fun _ _ _ _ _ => none) (s := X11_stolenOf_L4_s) 8 (fun i f => f 75 (nI k) (nI (sumN (erG V K E k) i)) (nI (i + 1)) (enc c j w m n) = some (nI (sumN (erG V K E k) 8), enc c j w m n)) ?_ ?_
      · intro i f hi ih
        have hle := erG_le g gk ge hk i
        unfold X11_stolenOf_L4_s X11_stolenOf_B67
        rw [show (8 : Int32) = nI 8 from rfl, if_neg (by rw [N_lt (by omega) (by omega)]; omega), cV_eq C75, m_early g gk ge hV hK hE hk hi, bd_eq, pin_eq, N_add, show nI (i + 1) + 1 = nI (i + 2) from N_add _ 1]
        by_cases e : nI (erG V K E k i) ≤ 0
        · rw [if_pos e]; exact ih
        · rw [if_neg e, I75_33, ob_some, if_pos (show m 75 33 = 0 from hD.1)]; exact ih
      · intro f
        unfold X11_stolenOf_L4_s
        rw [if_pos (by decide)]
    exact L 5000 0 (by omega) (by omega)
  | true =>
    obtain ⟨hc, hs⟩ := hD.2 rfl
    rw [if_pos rfl]
    have L := loop_up (z := fun _ _ _ _ _ => none) (s := X11_stolenOf_L4_s) 8 (fun i f => ∀ m1 : Nat → Nat → Int32, (∀ y, y ≠ 75 → m1 y = m y) → (∀ f, f ≠ 32 → m1 75 f = m 75 f) → m1 75 32 = nI (drF (V 20 10) (erG V K E k) s i).2 → ∃ m', f 75 (nI k) (nI (drF (V 20 10) (erG V K E k) s i).1) (nI (i + 1)) (enc c j w m1 n) = some (nI (drF (V 20 10) (erG V K E k) s 8).1, enc c j w m' n) ∧ (∀ y, y ≠ 75 → m' y = m y) ∧ (∀ f, f ≠ 32 → m' 75 f = m 75 f) ∧ (true = true → m' 75 32 = nI (drF (V 20 10) (erG V K E k) s 8).2)) ?_ ?_ 5000 0 (by omega) (by omega) m (fun _ _ => rfl) (fun _ _ => rfl) hc
    · exact L
    · intro i f hi ih m1 f1 g1 s1
      have hV1 : MV m1 78 V := hV.fr (f1 78 (by omega))
      have hK1 : MK m1 85 0 V K := hK.fr (f1 85 (by omega))
      have hE1 : ME m1 V E := fun b hb => by rw [f1 86 (by omega)]; exact hE b hb
      have hle := erG_le g gk ge hk i
      have hsd := drF_lt (idle := V 20 10) (er := erG V K E k) hs i
      have ez : nI (erG V K E k i) ≤ 0 ↔ erG V K E k i = 0 := by
        rw [show (0 : Int32) = nI 0 from rfl, N_le (by omega) (by omega)]; omega
      unfold X11_stolenOf_L4_s X11_stolenOf_B67
      rw [show (8 : Int32) = nI 8 from rfl, if_neg (by rw [N_lt (by omega) (by omega)]; omega), cV_eq C75, m_early g gk ge hV1 hK1 hE1 hk hi, bd_eq]
      by_cases e : erG V K E k i = 0
      · have ed : drF (V 20 10) (erG V K E k) s (i + 1) = drF (V 20 10) (erG V K E k) s i := by rw [drF, if_pos e]
        rw [if_pos (ez.mpr e), pin_eq, N_add, show nI (i + 1) + 1 = nI (i + 2) from N_add _ 1, e, Nat.add_zero]
        have := ih m1 f1 g1 (by rw [ed]; exact s1)
        rw [ed] at this
        exact this
      · have e1 : 75 * nI (drF (V 20 10) (erG V K E k) s i).2 + 74 = nI (75 * (drF (V 20 10) (erG V K E k) s i).2 + 74) := by rw [show (75 : Int32) = nI 75 from rfl, show (74 : Int32) = nI 74 from rfl, N_mul, N_add]
        have h3 := nxt_lt (drF (V 20 10) (erG V K E k) s i).2
        have hV2 : MV (va_up m1 75 (upd (m1 75) 32 (nI (nxt (drF (V 20 10) (erG V K E k) s i).2)))) 78 V := hV1.fr (by simp only [va_up]; rw [if_neg (by omega)])
        have e2 : va_up m1 75 (upd (m1 75) 32 (nI (nxt (drF (V 20 10) (erG V K E k) s i).2))) 75 32 = nI (nxt (drF (V 20 10) (erG V K E k) s i).2) := by simp [va_up, upd]
        rw [if_neg (fun z => e (ez.mp z)), I75_33, ob_some, g1 33 (by omega), hD.1, if_neg (show ¬ (if true = true then (1 : Int32) else 0) = 0 by decide), I75_32, ob_some, s1, e1, show (65537 : Int32) = nI 65537 from rfl, N_mod (by omega) (by omega), show (75 * (drF (V 20 10) (erG V K E k) s i).2 + 74) % 65537 = nxt (drF (V 20 10) (erG V K E k) s i).2 from rfl, P75_32, ob_some, I75_32, ob_some, R75_15, ob_some, show aI (enc c j w (va_up m1 75 (upd (m1 75) 32 (nI (nxt (drF (V 20 10) (erG V K E k) s i).2)))) n) 78 1 = _ from M78 (i := 1) (by omega), ob_some, hV2.1.2.1, e2, show (100 : Int32) = nI 100 from rfl, N_mod (by omega) (by omega), show nI (i + 1) + 1 = nI (i + 2) from N_add _ 1]
        have h5 := Nat.mod_lt (nxt (drF (V 20 10) (erG V K E k) s i).2) (show 100 > 0 by omega)
        have F : ∀ y, y ≠ 75 → va_up m1 75 (upd (m1 75) 32 (nI (nxt (drF (V 20 10) (erG V K E k) s i).2))) y = m y := fun y hy => by simp only [va_up, if_neg hy]; exact f1 y hy
        have G : ∀ f, f ≠ 32 → va_up m1 75 (upd (m1 75) 32 (nI (nxt (drF (V 20 10) (erG V K E k) s i).2))) 75 f = m 75 f := fun f hf => by simp only [va_up, if_true, upd, if_neg hf]; exact g1 f hf
        by_cases e3 : nxt (drF (V 20 10) (erG V K E k) s i).2 % 100 < V 20 10
        · have ed : drF (V 20 10) (erG V K E k) s (i + 1) = ((drF (V 20 10) (erG V K E k) s i).1, nxt (drF (V 20 10) (erG V K E k) s i).2) := by rw [drF, if_neg e, if_pos e3]
          rw [if_neg (by rw [N_le (by omega) (by omega)]; omega), pin_eq, show nI (drF (V 20 10) (erG V K E k) s i).1 + 0 = nI ((drF (V 20 10) (erG V K E k) s i).1 + 0) from N_add _ 0, Nat.add_zero]
          have := ih _ F G (by rw [ed]; exact e2)
          rw [ed] at this
          exact this
        · have ed : drF (V 20 10) (erG V K E k) s (i + 1) = ((drF (V 20 10) (erG V K E k) s i).1 + erG V K E k i, nxt (drF (V 20 10) (erG V K E k) s i).2) := by rw [drF, if_neg e, if_neg e3]
          rw [if_pos (by rw [N_le (by omega) (by omega)]; omega), pin_eq, N_add]
          have := ih _ F G (by rw [ed]; exact e2)
          rw [ed] at this
          exact this
    · intro f m1 f1 g1 s1
      refine ⟨m1, ?_, f1, g1, fun _ => s1⟩
      unfold X11_stolenOf_L4_s
      rw [if_pos (by decide)]
/-- noons that aren't clouded -/
def RC (m : Nat → Nat → Int32) (V : Nat → Nat → Nat) (S : Nat → Bool) : Prop := ∃ M, M < 65536 ∧ m 75 31 = nI M ∧ ∀ i, i < V 20 3 → S i = !(M.testBit i)
theorem m_isNoon (g : GV V) (hV : MV m 78 V) (hS : RC m V S) {q : Nat} (hq : q < 100) : X11_isNoon 75 (nI q) (enc c j w m n) = some (if nSeen V S q then 1 else 0, enc c j w m n) := by
  have g4 := g.1.2.2.2.1
  have g12 := g.1.2.2.1
  obtain ⟨M, hM, hM2, hM3⟩ := hS
  refine loop_up (z := fun _ _ _ _ => none) (s := X11_isNoon_L2_s) (V 20 3) (fun i f => (∀ i', i' < i → (V 5 i' == q && S i') = false) → f 75 (nI q) (nI i) (enc c j w m n) = some (if nSeen V S q then 1 else 0, enc c j w m n)) ?_ ?_ 5000 0 (Nat.zero_le _) (by omega) (fun i h => absurd h (Nat.not_lt_zero _))
  · intro i f hi ih hn
    have hV5 := g.2.2.2.2.2.1 i hi
    have ext : (V 5 i == q && S i) = false → ∀ i', i' < i + 1 → (V 5 i' == q && S i') = false := by
      intro e i' hi'
      rcases Nat.lt_or_eq_of_le (Nat.le_of_lt_succ hi') with h1 | h1
      · exact hn i' h1
      · subst h1; exact e
    unfold X11_isNoon_L2_s X11_isNoon_B38
    rw [R75_15, ob_some, show (5 : Int32) = nI 5 from rfl, M78 (by omega), ob_some, show m 78 5 = nI (V 20 3) from hV.2.1 3 (by omega), if_neg (by rw [N_le (by omega) (by omega)]; omega), ob_some, show (50 : Int32) + nI i = nI (50 + i) from N_add 50 i, M78 (by omega), ob_some, hV.2.2.2.2.2.1 i hi, show nI i + 1 = nI (i + 1) from N_add i 1]
    by_cases e : V 5 i = q
    · rw [if_pos (by rw [e]), I75_31, ob_some, hM2, m_hasBit (by omega) (by omega), bd_eq]
      have hsi := hM3 i hi
      cases e2 : M.testBit i with
      | true =>
        rw [e2] at hsi
        rw [if_neg (show ¬ (if true = true then (1 : Int32) else 0) = 0 by decide)]
        exact ih (ext (by rw [hsi]; simp))
      | false =>
        rw [e2] at hsi
        rw [if_pos (show (if false = true then (1 : Int32) else 0) = 0 by decide), rZ_1]
        have : nSeen V S q = true := by
          unfold nSeen; rw [List.any_eq_true]; exact ⟨i, List.mem_range.mpr hi, by simp [e, hsi]⟩
        rw [this]; rfl
    · rw [if_neg (by rw [N_inj (by omega) (by omega)]; exact e)]
      exact ih (ext (by simp [e]))
  · intro f hn
    unfold X11_isNoon_L2_s
    rw [R75_15, ob_some, show (5 : Int32) = nI 5 from rfl, M78 (by omega), ob_some, show m 78 5 = nI (V 20 3) from hV.2.1 3 (by omega), if_pos (by rw [N_le (by omega) (by omega)]; omega), rZ_0]
    have : nSeen V S q = false := by
      unfold nSeen; rw [List.any_eq_false]
      intro i' hi'
      have := hn i' (List.mem_range.mp hi')
      simpa using this
    rw [this]; rfl
/-- the rows of a sailing -/
def RSail (m : Nat → Nat → Int32) (V K : Nat → Nat → Nat) (L : Nat → Nat) (S : Nat → Bool) (q : Nat) : Prop :=
  (∀ k, k < q → m 87 k = nI (L k)) ∧ (∀ i, i ≤ q → m 88 i = iI (pE V K L i) ∧ m 89 i = iI (pN V K L i) ∧ m 90 i = iI (pTE V K i) ∧ m 91 i = iI (pTN V K L S i))
theorem m_sail (g : GV V) (gk : GK V K) (ge : GE V E) (hV : MV m 78 V) (hK : MK m 85 0 V K) (hE : ME m V E) (hS : RC m V S) {D : Bool} {s : Nat} (hD : RD m D s) {q : Nat} (hq : q ≤ V 20 2) : ∃ m', X11_sail 75 (nI q) (enc c j w m n) = some (enc c j w m' n) ∧ (∀ y, y ≠ 75 → (y < 87 ∨ 91 < y) → m' y = m y) ∧ (∀ f, f ≠ 32 → m' 75 f = m 75 f) ∧ RD m' D (dwS V K E D s q) ∧ RSail m' V K (dwL V K E D s) S q := by
  have g12 := g.1.2.2.1
  have q0 : ∀ x : Nat, 100 * nI x + 50 = iI (100 * (x : Int) + 50) := fun x => by
    rw [nI_iI, show (100 : Int32) = iI 100 from rfl, show (50 : Int32) = iI 50 from rfl, Z_mul, Z_add]
  have Lp : ∀ m0 : Nat → Nat → Int32, (∀ y, y ≠ 75 → (y < 87 ∨ 91 < y) → m0 y = m y) → (∀ f, f ≠ 32 → m0 75 f = m 75 f) → RD m0 D s → RSail m0 V K (dwL V K E D s) S 0 → ∃ m', X11_sail_L64 5000 75 (nI q) 0 (enc c j w m0 n) = some (enc c j w m' n) ∧ (∀ y, y ≠ 75 → (y < 87 ∨ 91 < y) → m' y = m y) ∧ (∀ f, f ≠ 32 → m' 75 f = m 75 f) ∧ RD m' D (dwS V K E D s q) ∧ RSail m' V K (dwL V K E D s) S q := by
    intro m0 f0 g0 d0 r0
    have d0' : RD m0 D (dwS V K E D s 0) := by
      cases D
      · exact ⟨d0.1, fun h => by cases h⟩
      · exact d0
    refine loop_up (z := fun _ _ _ _ => none) (s := X11_sail_L64_s) q (fun i f => ∀ m1 : Nat → Nat → Int32, (∀ y, y ≠ 75 → (y < 87 ∨ 91 < y) → m1 y = m y) → (∀ f, f ≠ 32 → m1 75 f = m 75 f) → RD m1 D (dwS V K E D s i) → RSail m1 V K (dwL V K E D s) S i → ∃ m', f 75 (nI q) (nI i) (enc c j w m1 n) = some (enc c j w m' n) ∧ (∀ y, y ≠ 75 → (y < 87 ∨ 91 < y) → m' y = m y) ∧ (∀ f, f ≠ 32 → m' 75 f = m 75 f) ∧ RD m' D (dwS V K E D s q) ∧ RSail m' V K (dwL V K E D s) S q) ?_ ?_ 5000 0 (Nat.zero_le _) (by omega) m0 f0 g0 d0' r0
    · intro i f hi ih m1 f1 g1 d1 r1
      have hiw : i < V 20 2 := by omega
      have hV1 : MV m1 78 V := hV.fr (f1 78 (by omega) (by omega))
      have hK1 : MK m1 85 0 V K := hK.fr (f1 85 (by omega) (by omega))
      have hE1 : ME m1 V E := fun b hb => by rw [f1 86 (by omega) (by omega)]; exact hE b hb
      obtain ⟨m2, e2, f2, g2, s2⟩ := m_stolen (c := c) (j := j) (w := w) (m := m1) (n := n) g gk ge hV1 hK1 hE1 hiw d1
      have eL : (if D then (drF (V 20 10) (erG V K E i) (dwS V K E D s i) 8).1 else stl V K E i) = dwL V K E D s i := by
        cases D
        · simp only [dwL, Bool.false_eq_true, if_false]
        · simp only [dwL, dwS, drL, if_true]
      rw [eL] at e2
      have hcs := (gk i hiw).2.1
      have hsp := (g.2.2.2.2.1 i hiw).2.2.2
      obtain ⟨r1a, r1b⟩ := r1
      obtain ⟨z8, z9, z0, z1⟩ := r1b i (Nat.le_refl _)
      generalize hm3 : va_up m2 87 (upd (m2 87) i (nI (dwL V K E D s i))) = m3
      have m3_87 : m3 87 i = nI (dwL V K E D s i) := by rw [← hm3]; simp [va_up, upd]
      have m3_o : ∀ y, y ≠ 75 → y ≠ 87 → m3 y = m1 y := fun y h1 h2 => by rw [← hm3]; simp only [va_up, if_neg h2]; exact f2 y h1
      have m3_75 : m3 75 = m2 75 := by rw [← hm3]; simp [va_up]
      have m3_87' : ∀ x, x ≠ i → m3 87 x = m1 87 x := fun x hx => by rw [← hm3]; simp only [va_up, if_true, upd, if_neg hx]; rw [f2 87 (by omega)]
      have hV3 : MV m3 78 V := hV1.fr (m3_o 78 (by omega) (by omega))
      -- the rows
      have ex : ∀ (d : Int) (x : Int32), x = iI d → ∀ L : Nat, (x * nI (V 4 i)) * (240 - nI L) = iI (d * ((240 - (L : Int)) * (V 4 i : Int))) := by
        intro d x hx L
        rw [hx, show (240 : Int32) = iI 240 from rfl, nI_iI, nI_iI, Z_sub, Z_mul, Z_mul, Int.mul_assoc, Int.mul_comm (V 4 i : Int)]
      have ex2 : ∀ (d : Int) (x : Int32), x = iI d → (x * nI (V 4 i)) * 240 = iI (d * (240 * (V 4 i : Int))) := by
        intro d x hx
        rw [hx, show (240 : Int32) = iI 240 from rfl, nI_iI, Z_mul, Z_mul, Int.mul_assoc, Int.mul_comm (V 4 i : Int)]
      have B : ∀ x y : Int32, x = iI (dx (K 1 i)) → y = iI (dy (K 1 i)) → ∃ m', X11_sail_B126 f 75 (nI q) (nI i) x y (enc c j w m3 n) = some (enc c j w m' n) ∧ (∀ y, y ≠ 75 → (y < 87 ∨ 91 < y) → m' y = m y) ∧ (∀ f, f ≠ 32 → m' 75 f = m 75 f) ∧ RD m' D (dwS V K E D s q) ∧ RSail m' V K (dwL V K E D s) S q := by
        intro x y hx hy
        generalize hm4 : va_up m3 88 (upd (m3 88) (i + 1) (iI (pE V K (dwL V K E D s) (i + 1)))) = m4
        generalize hm5 : va_up m4 89 (upd (m4 89) (i + 1) (iI (pN V K (dwL V K E D s) (i + 1)))) = m5
        generalize hm6 : va_up m5 90 (upd (m5 90) (i + 1) (iI (pTE V K (i + 1)))) = m6
        generalize hm7 : va_up m6 91 (upd (m6 91) (i + 1) (iI (pTN V K (dwL V K E D s) S (i + 1)))) = m7
        have o4 : ∀ z, z ≠ 88 → m4 z = m3 z := fun z hz => by rw [← hm4]; simp only [va_up, if_neg hz]
        have o5 : ∀ z, z ≠ 89 → m5 z = m4 z := fun z hz => by rw [← hm5]; simp only [va_up, if_neg hz]
        have o6 : ∀ z, z ≠ 90 → m6 z = m5 z := fun z hz => by rw [← hm6]; simp only [va_up, if_neg hz]
        have o7 : ∀ z, z ≠ 91 → m7 z = m6 z := fun z hz => by rw [← hm7]; simp only [va_up, if_neg hz]
        have hV6 : MV m6 78 V := hV3.fr (by rw [o6 78 (by omega), o5 78 (by omega), o4 78 (by omega)])
        have hS6 : RC m6 V S := by
          obtain ⟨M, hM, h2, h3⟩ := hS
          refine ⟨M, hM, ?_, h3⟩
          rw [o6 75 (by omega), o5 75 (by omega), o4 75 (by omega), m3_75, g2 31 (by omega), g1 31 (by omega)]; exact h2
        have hrc : ∃ m', f 75 (nI q) (nI (i + 1)) (enc c j w m7 n) = some (enc c j w m' n) ∧ (∀ y, y ≠ 75 → (y < 87 ∨ 91 < y) → m' y = m y) ∧ (∀ f, f ≠ 32 → m' 75 f = m 75 f) ∧ RD m' D (dwS V K E D s q) ∧ RSail m' V K (dwL V K E D s) S q := by
          have m7_75 : m7 75 = m2 75 := by rw [o7 75 (by omega), o6 75 (by omega), o5 75 (by omega), o4 75 (by omega), m3_75]
          refine ih m7 (fun z h1 h2 => ?_) (fun f hf => ?_) ⟨?_, fun hDt => ?_⟩ ⟨fun k hk => ?_, fun t ht => ?_⟩
          · rw [o7 z (by omega), o6 z (by omega), o5 z (by omega), o4 z (by omega), m3_o z h1 (by omega)]; exact f1 z h1 h2
          · rw [m7_75, g2 f hf]; exact g1 f hf
          · rw [m7_75, g2 33 (by omega)]; exact d1.1
          · obtain ⟨-, hsl⟩ := d1.2 hDt
            rw [m7_75, s2 hDt]
            subst hDt
            exact ⟨rfl, drF_lt hsl 8⟩
          · rw [o7 87 (by omega), o6 87 (by omega), o5 87 (by omega), o4 87 (by omega)]
            by_cases e : k = i
            · subst e; exact m3_87
            · rw [m3_87' k e]; exact r1a k (by omega)
          · by_cases e : t = i + 1
            · subst e
              refine ⟨?_, ?_, ?_, ?_⟩
              · rw [o7 88 (by omega), o6 88 (by omega), o5 88 (by omega), ← hm4]; simp [va_up, upd]
              · rw [o7 89 (by omega), o6 89 (by omega), ← hm5]; simp [va_up, upd]
              · rw [o7 90 (by omega), ← hm6]; simp [va_up, upd]
              · rw [← hm7]; simp [va_up, upd]
            · obtain ⟨y8, y9, y0, y1⟩ := r1b t (by omega)
              refine ⟨?_, ?_, ?_, ?_⟩
              · rw [o7 88 (by omega), o6 88 (by omega), o5 88 (by omega), ← hm4]; simp only [va_up, if_true, upd, if_neg e]; rw [m3_o 88 (by omega) (by omega)]; exact y8
              · rw [o7 89 (by omega), o6 89 (by omega), ← hm5]; simp only [va_up, if_true, upd, if_neg e]; rw [o4 89 (by omega), m3_o 89 (by omega) (by omega)]; exact y9
              · rw [o7 90 (by omega), ← hm6]; simp only [va_up, if_true, upd, if_neg e]; rw [o5 90 (by omega), o4 90 (by omega), m3_o 90 (by omega) (by omega)]; exact y0
              · rw [← hm7]; simp only [va_up, if_true, upd, if_neg e]; rw [o6 91 (by omega), o5 91 (by omega), o4 91 (by omega), m3_o 91 (by omega) (by omega)]; exact y1
        have v8 : m3 88 i + x * nI (V 4 i) * (240 - nI (dwL V K E D s i)) = iI (pE V K (dwL V K E D s) (i + 1)) := by
          rw [m3_o 88 (by omega) (by omega), z8, ex _ _ hx, Z_add]; rfl
        have v9 : m4 89 i + y * nI (V 4 i) * (240 - nI (dwL V K E D s i)) = iI (pN V K (dwL V K E D s) (i + 1)) := by
          rw [o4 89 (by omega), m3_o 89 (by omega) (by omega), z9, ex _ _ hy, Z_add]; rfl
        have v0 : m5 90 i + x * nI (V 4 i) * 240 = iI (pTE V K (i + 1)) := by
          rw [o5 90 (by omega), o4 90 (by omega), m3_o 90 (by omega) (by omega), z0, ex2 _ _ hx, Z_add]; rfl
        unfold X11_sail_B126 X11_sail_B273
        rw [R75_15, ob_some, show (26 : Int32) + 2 * nI i + 1 = nI (26 + 2 * i + 1) from IX1 26 i, M78 (by omega), ob_some, (hV3.2.2.2.2.1 i hiw).2, R75_27, ob_some, ob_some, M88 (by omega), ob_some, R75_26, ob_some, M87 (by omega), ob_some, m3_87, show nI i + 1 = nI (i + 1) from N_add i 1, v8, S88 (by omega), hm4, ob_some, R75_28, ob_some, ob_some, M89 (by omega), ob_some, R75_26, ob_some, M87 (by omega), ob_some, o4 87 (by omega), m3_87, v9, S89 (by omega), hm5, ob_some, R75_29, ob_some, ob_some, M90 (by omega), ob_some, v0, S90 (by omega), hm6, ob_some, R75_30, ob_some, cV_eq C75, m_isNoon g hV6 hS6 (by omega), bd_eq]
        cases e : nSeen V S (i + 1) with
        | false =>
          have v1 : m6 91 i + y * nI (V 4 i) * 240 = iI (pTN V K (dwL V K E D s) S (i + 1)) := by
            rw [o6 91 (by omega), o5 91 (by omega), o4 91 (by omega), m3_o 91 (by omega) (by omega), z1, ex2 _ _ hy, Z_add, pTN_succ, e]; rfl
          rw [if_pos (show (if false = true then (1 : Int32) else 0) = 0 by decide), R75_30, ob_some, M91 (by omega), ob_some, v1, S91 (by omega), hm7, ob_some]
          exact hrc
        | true =>
          have v1 : m6 89 (i + 1) = iI (pTN V K (dwL V K E D s) S (i + 1)) := by
            rw [o6 89 (by omega), ← hm5, pTN_succ, e]; simp [va_up, upd]
          rw [if_neg (show ¬ (if true = true then (1 : Int32) else 0) = 0 by decide), R75_28, ob_some, M89 (by omega), ob_some, v1, S91 (by omega), hm7, ob_some]
          exact hrc
      unfold X11_sail_L64_s
      rw [if_neg (by rw [N_le (by omega) (by omega)]; omega), R75_26, ob_some, cV_eq C75, e2, bd_eq, S87 (by omega), hm3, ob_some, R75_24, ob_some, M85 (by omega), ob_some, m3_o 85 (by omega) (by omega), show m1 85 i = nI (K 1 i) by have := (hK1.1 i hiw).1; rwa [Nat.zero_add] at this]
      unfold X11_sail_B106
      generalize hc1 : K 1 i = q1 at *
      match q1, hcs with
      | 0, _ => exact B 0 1 rfl rfl
      | 1, _ => exact B 1 0 rfl rfl
      | 2, _ => exact B 0 (-1) rfl rfl
      | 3, _ => exact B (-1) 0 rfl rfl
      | q1 + 4, h => omega
    · intro f m1 f1 g1 d1 r1
      refine ⟨m1, ?_, f1, g1, d1, r1⟩
      unfold X11_sail_L64_s
      rw [if_pos (by rw [N_le (by omega) (by omega)]; omega)]
  generalize hm1 : va_up m 88 (upd (m 88) 0 (iI (100 * (V 20 7 : Int) + 50))) = m1
  generalize hm2 : va_up m1 89 (upd (m1 89) 0 (iI (100 * (V 20 8 : Int) + 50))) = m2
  generalize hm3 : va_up m2 90 (upd (m2 90) 0 (iI (100 * (V 20 7 : Int) + 50))) = m3
  generalize hm4 : va_up m3 91 (upd (m3 91) 0 (iI (100 * (V 20 8 : Int) + 50))) = m4
  have o1 : ∀ z, z ≠ 88 → m1 z = m z := fun z hz => by rw [← hm1]; simp only [va_up, if_neg hz]
  have o2 : ∀ z, z ≠ 89 → m2 z = m1 z := fun z hz => by rw [← hm2]; simp only [va_up, if_neg hz]
  have o3 : ∀ z, z ≠ 90 → m3 z = m2 z := fun z hz => by rw [← hm3]; simp only [va_up, if_neg hz]
  have o4 : ∀ z, z ≠ 91 → m4 z = m3 z := fun z hz => by rw [← hm4]; simp only [va_up, if_neg hz]
  have hV1 : MV m1 78 V := hV.fr (o1 78 (by omega))
  have y8 : m1 88 0 = iI (100 * (V 20 7 : Int) + 50) := by rw [← hm1]; simp [va_up, upd]
  have y9 : m2 89 0 = iI (100 * (V 20 8 : Int) + 50) := by rw [← hm2]; simp [va_up, upd]
  have y0 : m3 90 0 = iI (100 * (V 20 7 : Int) + 50) := by rw [← hm3]; simp [va_up, upd]
  have y1 : m4 91 0 = iI (100 * (V 20 8 : Int) + 50) := by rw [← hm4]; simp [va_up, upd]
  unfold X11_sail
  rw [R75_27, ob_some, R75_15, ob_some, show (10 : Int32) = nI 10 from rfl, M78 (by omega), ob_some, hV.1.2.2.1, q0, show (0 : Int32) = nI 0 from rfl, S88 (by omega), hm1, ob_some, R75_28, ob_some, R75_15, ob_some, show (11 : Int32) = nI 11 from rfl, M78 (by omega), ob_some, hV1.1.2.2.2, q0, S89 (by omega), hm2, ob_some, R75_29, ob_some, R75_27, ob_some, M88 (by omega), ob_some, o2 88 (by omega), y8, S90 (by omega), hm3, ob_some, R75_30, ob_some, R75_28, ob_some, M89 (by omega), ob_some, o3 89 (by omega), y9, S91 (by omega), hm4, ob_some]
  refine Lp m4 (fun z h1 h2 => by rw [o4 z (by omega), o3 z (by omega), o2 z (by omega), o1 z (by omega)]) (fun f hf => by rw [o4 75 (by omega), o3 75 (by omega), o2 75 (by omega), o1 75 (by omega)]) ?_ ⟨fun k hk => absurd hk (Nat.not_lt_zero _), fun i hi => ?_⟩
  · unfold RD; rw [o4 75 (by omega), o3 75 (by omega), o2 75 (by omega), o1 75 (by omega)]; exact hD
  · have : i = 0 := by omega
    subst this
    exact ⟨by rw [o4 88 (by omega), o3 88 (by omega), o2 88 (by omega)]; exact y8, by rw [o4 89 (by omega), o3 89 (by omega)]; exact y9, by rw [o4 90 (by omega)]; exact y0, y1⟩
end
