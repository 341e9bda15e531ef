/-! what is told, how it is kept; what is stolen -/
def isV (v : Nat) : Prop := v = 2 ∨ v = 17
def isK (kp : Nat) : Prop := kp = 35 ∨ kp = 41 ∨ kp = 46 ∨ kp = 51 ∨ kp = 63
def lkM (e : Nat) : Nat := (List.range 8).foldl (fun b g => if (g + 1) % e = 0 then b + 2 ^ g else b) 0
def pop8 (x : Nat) : Nat := (List.range 8).foldl (fun b g => if x.testBit g then b + 1 else b) 0
def ear (kd e : Nat) (lk : Bool) : Nat := if kd = 0 then 0 else if lk then (if kd = 2 then e / 2 else 0) else e
def lkOf (V K : Nat → Nat → Nat) (k : Nat) : Nat := if K 2 k = 0 then lkM (V 2 (V 3 k)) else 255
def earOf (V K : Nat → Nat → Nat) (E : Nat → Nat) (k : Nat) (lk : Bool) : Nat := ear (V 0 (K 0 k)) (E (K 0 k)) lk
def stl (V K : Nat → Nat → Nat) (E : Nat → Nat) (k : Nat) : Nat := pop8 (lkOf V K k) * earOf V K E k true + (8 - pop8 (lkOf V K k)) * earOf V K E k false
def sumN (f : Nat → Nat) : Nat → Nat
  | 0 => 0
  | n + 1 => sumN f n + f n
/-- a voyage of the class stands for V -/
def RV (c : Nat → Nat → Int32) (v : Nat) (V : Nat → Nat → Nat) : Prop :=
  (∀ t, t < 7 → c (v + 1 + 2 * t) 3 = nI (V 20 t)) ∧
  (∀ f, f < 4 → c v (8 + f) = nI (V 20 (7 + f))) ∧
  (∀ i, i < V 20 0 → c (v + 2) (i * 2) = nI (V 0 i) ∧ c (v + 2) (i * 2 + 1) = nI (V 1 i)) ∧
  (∀ i, i < V 20 1 → c (v + 4) (i * 2) = nI (V 2 i) ∧ c (v + 4) (i * 2 + 1) = nI (lkM (V 2 i))) ∧
  (∀ k, k < V 20 2 → c (v + 6) (k * 4) = nI (V 11 k) ∧ c (v + 6) (k * 4 + 1) = nI (V 3 k) ∧ c (v + 6) (k * 4 + 2) = nI (V 12 k) ∧ c (v + 6) (k * 4 + 3) = nI (V 4 k)) ∧
  (∀ i, i < V 20 3 → c (v + 8) (i * 1) = nI (V 5 i)) ∧
  (∀ i, i < V 20 4 → c (v + 10) (i * 1) = nI (V 6 i)) ∧
  (∀ i, i < V 20 5 → c (v + 12) (i * 2) = nI (V 7 i) ∧ c (v + 12) (i * 2 + 1) = nI (V 8 i)) ∧
  (∀ i, i < V 20 6 → c (v + 14) (i * 2) = nI (V 9 i) ∧ c (v + 14) (i * 2 + 1) = nI (V 10 i))
/-- a way to keep it stands for K and E -/
def RK (c : Nat → Nat → Int32) (kp : Nat) (V K : Nat → Nat → Nat) (E : Nat → Nat) : Prop :=
  (∀ k, k < V 20 2 → c (kp + 2) (k * 3) = nI (K 0 k) ∧ c (kp + 2) (k * 3 + 1) = nI (K 1 k) ∧ c (kp + 2) (k * 3 + 2) = nI (K 2 k)) ∧
  (∀ b, b < V 20 0 → c (kp + 4) (b * 1) = nI (E b))
def GV (V : Nat → Nat → Nat) : Prop :=
  (V 20 0 ≤ 5 ∧ V 20 1 ≤ 4 ∧ V 20 2 ≤ 12 ∧ V 20 3 ≤ 4 ∧ V 20 4 ≤ 6 ∧ V 20 5 ≤ 4 ∧ V 20 6 ≤ 3 ∧ 1 ≤ V 20 2) ∧
  (V 20 7 < 200 ∧ V 20 8 < 200 ∧ V 20 9 ≤ 100 ∧ V 20 10 ≤ 100) ∧
  (∀ i, i < V 20 0 → V 0 i < 3 ∧ V 1 i ≤ 20) ∧
  (∀ i, i < V 20 1 → 1 ≤ V 2 i ∧ V 2 i ≤ 9) ∧
  (∀ k, k < V 20 2 → V 11 k < V 20 0 ∧ V 3 k < V 20 1 ∧ V 12 k < 4 ∧ V 4 k ≤ 9) ∧
  (∀ i, i < V 20 3 → 1 ≤ V 5 i ∧ V 5 i ≤ V 20 2) ∧
  (∀ i i', i < V 20 3 → i' < V 20 3 → V 5 i = V 5 i' → i = i') ∧
  (∀ i, i < V 20 4 → V 6 i < 1000000) ∧
  (∀ i, i < V 20 5 → V 7 i < V 20 0 ∧ V 8 i ≤ 20) ∧
  (∀ i, i < V 20 6 → V 9 i ≤ V 20 2 ∧ V 10 i < 1000000)
def GK (V K : Nat → Nat → Nat) : Prop := ∀ k, k < V 20 2 → K 0 k < V 20 0 ∧ K 1 k < 4 ∧ K 2 k < 2
def GE (V : Nat → Nat → Nat) (E : Nat → Nat) : Prop := ∀ b, b < V 20 0 → E b ≤ 20
theorem RV.fr {c c' : Nat → Nat → Int32} {v : Nat} {V : Nat → Nat → Nat} (hv : isV v) (h : RV c v V) (hc : ∀ y, 2 ≤ y → y < 32 → c' y = c y) : RV c' v V := by
  have e : ∀ i, i < 15 → c' (v + i) = c (v + i) := fun i hi => hc _ (by rcases hv with rfl | rfl <;> omega) (by rcases hv with rfl | rfl <;> omega)
  obtain ⟨h1, h2, h3, h4, h5, h6, h7, h8, h9⟩ := h
  refine ⟨fun t ht => ?_, fun f hf => ?_, fun i hi => ?_, fun i hi => ?_, fun i hi => ?_, fun i hi => ?_, fun i hi => ?_, fun i hi => ?_, fun i hi => ?_⟩
  · rw [Nat.add_assoc, e _ (by omega), ← Nat.add_assoc]; exact h1 t ht
  · rw [show v = v + 0 from rfl, e 0 (by omega)]; exact h2 f hf
  · rw [e 2 (by omega)]; exact h3 i hi
  · rw [e 4 (by omega)]; exact h4 i hi
  · rw [e 6 (by omega)]; exact h5 i hi
  · rw [e 8 (by omega)]; exact h6 i hi
  · rw [e 10 (by omega)]; exact h7 i hi
  · rw [e 12 (by omega)]; exact h8 i hi
  · rw [e 14 (by omega)]; exact h9 i hi
theorem RK.fr {c c' : Nat → Nat → Int32} {kp : Nat} {V K : Nat → Nat → Nat} {E : Nat → Nat} (h : RK c kp V K E) (h2 : c' (kp + 2) = c (kp + 2)) (h4 : c' (kp + 4) = c (kp + 4)) : RK c' kp V K E := by
  unfold RK; rw [h2, h4]; exact h
section
variable {c : Nat → Nat → Int32} {j : Nat → Nat → Int64} {w : Nat → Nat} {m : Nat → Nat → Int32} {n : Nat → Nat → Int64} {v kp : Nat} {V K : Nat → Nat → Nat} {E : Nat → Nat}
theorem V_t (hv : isV v) {t : Nat} (ht : t < 7) : gR (enc c j w m n) v 9 t = some (v + 1 + 2 * t) := by
  rcases hv with rfl | rfl
  · match t, ht with
    | 0, _ => exact gR_k (a := 2) rfl rfl
    | 1, _ => exact gR_k (a := 2) rfl rfl
    | 2, _ => exact gR_k (a := 2) rfl rfl
    | 3, _ => exact gR_k (a := 2) rfl rfl
    | 4, _ => exact gR_k (a := 2) rfl rfl
    | 5, _ => exact gR_k (a := 2) rfl rfl
    | 6, _ => exact gR_k (a := 2) rfl rfl
    | t + 7, h => omega
  · match t, ht with
    | 0, _ => exact gR_k (a := 17) rfl rfl
    | 1, _ => exact gR_k (a := 17) rfl rfl
    | 2, _ => exact gR_k (a := 17) rfl rfl
    | 3, _ => exact gR_k (a := 17) rfl rfl
    | 4, _ => exact gR_k (a := 17) rfl rfl
    | 5, _ => exact gR_k (a := 17) rfl rfl
    | 6, _ => exact gR_k (a := 17) rfl rfl
    | t + 7, h => omega
theorem V_0 (hv : isV v) : gR (enc c j w m n) v 9 0 = some (v + 1) := V_t hv (by omega)
theorem V_1 (hv : isV v) : gR (enc c j w m n) v 9 1 = some (v + 3) := V_t hv (by omega)
theorem V_2 (hv : isV v) : gR (enc c j w m n) v 9 2 = some (v + 5) := V_t hv (by omega)
theorem V_3 (hv : isV v) : gR (enc c j w m n) v 9 3 = some (v + 7) := V_t hv (by omega)
theorem V_4 (hv : isV v) : gR (enc c j w m n) v 9 4 = some (v + 9) := V_t hv (by omega)
theorem V_5 (hv : isV v) : gR (enc c j w m n) v 9 5 = some (v + 11) := V_t hv (by omega)
theorem V_6 (hv : isV v) : gR (enc c j w m n) v 9 6 = some (v + 13) := V_t hv (by omega)
theorem V_i (hv : isV v) {f : Nat} (h1 : 7 ≤ f) (h2 : f < 12) : gI (enc c j w m n) v 9 f = some (c v f) := by
  have : f = 7 ∨ f = 8 ∨ f = 9 ∨ f = 10 ∨ f = 11 := by omega
  rcases hv with rfl | rfl <;> rcases this with rfl | rfl | rfl | rfl | rfl
  all_goals exact gI_c rfl rfl (by decide)
theorem V_is (hv : isV v) : isC (enc c j w m n) v 9 = true := by
  rcases hv with rfl | rfl
  all_goals exact isC_enc rfl
theorem V_p (hv : isV v) {f : Nat} {x : Int32} (h1 : 7 ≤ f) (h2 : f < 12) : pF (enc c j w m n) v 9 f (.int x) = some (enc (va_up c v (upd (c v) f x)) j w m n) := by
  have : f = 7 ∨ f = 8 ∨ f = 9 ∨ f = 10 ∨ f = 11 := by omega
  rcases hv with rfl | rfl <;> rcases this with rfl | rfl | rfl | rfl | rfl
  all_goals exact pF_c rfl rfl (by decide)
theorem V_boys (hv : isV v) : isT (v + 1) 5 2 (v + 2) := by
  rcases hv with rfl | rfl
  all_goals exact ⟨rfl, rfl, by decide, by decide, by decide, by decide, by decide, by decide⟩
theorem V_offs (hv : isV v) : isT (v + 3) 4 2 (v + 4) := by
  rcases hv with rfl | rfl
  all_goals exact ⟨rfl, rfl, by decide, by decide, by decide, by decide, by decide, by decide⟩
theorem V_wats (hv : isV v) : isT (v + 5) 12 4 (v + 6) := by
  rcases hv with rfl | rfl
  all_goals exact ⟨rfl, rfl, by decide, by decide, by decide, by decide, by decide, by decide⟩
theorem V_noons (hv : isV v) : isT (v + 7) 4 1 (v + 8) := by
  rcases hv with rfl | rfl
  all_goals exact ⟨rfl, rfl, by decide, by decide, by decide, by decide, by decide, by decide⟩
theorem V_shoals (hv : isV v) : isT (v + 9) 6 1 (v + 10) := by
  rcases hv with rfl | rfl
  all_goals exact ⟨rfl, rfl, by decide, by decide, by decide, by decide, by decide, by decide⟩
theorem V_unsure (hv : isV v) : isT (v + 11) 4 2 (v + 12) := by
  rcases hv with rfl | rfl
  all_goals exact ⟨rfl, rfl, by decide, by decide, by decide, by decide, by decide, by decide⟩
theorem V_found (hv : isV v) : isT (v + 13) 3 2 (v + 14) := by
  rcases hv with rfl | rfl
  all_goals exact ⟨rfl, rfl, by decide, by decide, by decide, by decide, by decide, by decide⟩
theorem K_0 (hk : isK kp) : gR (enc c j w m n) kp 4 0 = some (kp + 1) := by
  rcases hk with rfl | rfl | rfl | rfl | rfl
  all_goals exact gR_k rfl rfl
theorem K_1 (hk : isK kp) : gR (enc c j w m n) kp 4 1 = some (kp + 3) := by
  rcases hk with rfl | rfl | rfl | rfl | rfl
  all_goals exact gR_k rfl rfl
theorem K_2 (hk : isK kp) : gI (enc c j w m n) kp 4 2 = some (c kp 2) := by
  rcases hk with rfl | rfl | rfl | rfl | rfl
  all_goals exact gI_c rfl rfl (by decide)
theorem K_p2 (hk : isK kp) {x : Int32} : pF (enc c j w m n) kp 4 2 (.int x) = some (enc (va_up c kp (upd (c kp) 2 x)) j w m n) := by
  rcases hk with rfl | rfl | rfl | rfl | rfl
  all_goals exact pF_c rfl rfl (by decide)
theorem K_is (hk : isK kp) : isC (enc c j w m n) kp 4 = true := by
  rcases hk with rfl | rfl | rfl | rfl | rfl
  all_goals exact isC_enc rfl
theorem K_wats (hk : isK kp) : isT (kp + 1) 12 3 (kp + 2) := by
  rcases hk with rfl | rfl | rfl | rfl | rfl
  all_goals exact ⟨rfl, rfl, by decide, by decide, by decide, by decide, by decide, by decide⟩
theorem K_early (hk : isK kp) : isT (kp + 3) 5 1 (kp + 4) := by
  rcases hk with rfl | rfl | rfl | rfl | rfl
  all_goals exact ⟨rfl, rfl, by decide, by decide, by decide, by decide, by decide, by decide⟩
theorem F59_0 : gR (enc c j w m n) 59 6 0 = some 60 := gR_k rfl rfl
theorem F59_1 : gR (enc c j w m n) 59 6 1 = some 61 := gR_k rfl rfl
theorem F59_2 : gR (enc c j w m n) 59 6 2 = some 63 := gR_k rfl rfl
theorem F59_3 : gR (enc c j w m n) 59 6 3 = some (w 3) := gR_w rfl rfl
theorem F59_is : isC (enc c j w m n) 59 6 = true := isC_enc rfl
theorem lost_T : isT 61 12 1 62 := ⟨rfl, rfl, by decide, by decide, by decide, by decide, by decide, by decide⟩
theorem trial_K : isK 63 := by unfold isK; decide
theorem now_K : isK 35 := by unfold isK; decide
theorem lkM_lt : ∀ e, 1 ≤ e → e ≤ 9 → lkM e < 256 := by
  have : ∀ e, e < 10 → lkM e < 256 := by decide
  exact fun e _ h => this e (by omega)
theorem lkOf_lt (g : GV V) {k : Nat} (hk : k < V 20 2) : lkOf V K k < 256 := by
  unfold lkOf
  split
  · exact lkM_lt _ (g.2.2.2.1 _ (g.2.2.2.2.1 k hk).2.1).1 (g.2.2.2.1 _ (g.2.2.2.2.1 k hk).2.1).2
  · decide
theorem ear_le {kd e : Nat} {lk : Bool} : ear kd e lk ≤ e := by
  unfold ear; split; · omega
  split; · split <;> omega
  · exact Nat.le_refl _
theorem c_looks (hv : isV v) (hw : w 3 = v) (hk : isK kp) (g : GV V) (gk : GK V K) (hV : RV c v V) (hK : RK c kp V K E) {k : Nat} (hlt : k < V 20 2) : X6_looksIn 59 kp (nI k) (enc c j w m n) = some (nI (lkOf V K k), enc c j w m n) := by
  have g12 := g.1.2.2.1
  have go := g.1.2.1
  unfold X6_looksIn
  rw [K_0 hk, ob_some, cV_eq (T_is (K_wats hk)), T_cell2 (K_wats hk) (by omega) (by omega), bd_eq, (hK.1 k hlt).2.2]
  unfold lkOf
  by_cases e : K 2 k = 0
  · rw [if_pos (by rw [e]; rfl), if_pos e, F59_3, hw, ob_some, V_1 hv, ob_some, ob_some, V_2 hv, ob_some, cV_eq (T_is (V_wats hv)), T_cell1 (V_wats hv) (by omega) (by omega), bd_eq, (hV.2.2.2.2.1 k hlt).2.1, cV_eq (T_is (V_offs hv)), T_cell1 (V_offs hv) (by have := (g.2.2.2.2.1 k hlt).2.1; omega) (by omega), bd_eq, (hV.2.2.2.1 _ (g.2.2.2.2.1 k hlt).2.1).2]
  · have : ¬ nI (K 2 k) = 0 := by
      rw [show (0 : Int32) = nI 0 from rfl, N_inj (by have := (gk k hlt).2.2; omega) (by omega)]; exact e
    rw [if_neg this, if_neg e]; rfl
theorem c_early (hv : isV v) (hw : w 3 = v) (hk : isK kp) (g : GV V) (gk : GK V K) (ge : GE V E) (hV : RV c v V) (hK : RK c kp V K E) {k : Nat} (hlt : k < V 20 2) (b : Bool) : X6_earlyIn 59 kp (nI k) (if b then 1 else 0) (enc c j w m n) = some (nI (earOf V K E k b), enc c j w m n) := by
  have g12 := g.1.2.2.1
  have g5 := g.1.1
  have hb := (gk k hlt).1
  have hkd := (g.2.2.1 _ hb).1
  have he := ge _ hb
  unfold X6_earlyIn
  rw [K_0 hk, ob_some, cV_eq (T_is (K_wats hk)), T_cell0 (K_wats hk) (by omega) (by omega), bd_eq, (hK.1 k hlt).1, F59_3, hw, ob_some, V_0 hv, ob_some, cV_eq (T_is (V_boys hv)), T_cell0 (V_boys hv) (by omega) (by omega), bd_eq, (hV.2.2.1 _ hb).1, K_1 hk, ob_some, cV_eq (T_is (K_early hk)), T_cell0 (K_early hk) (by omega) (by omega), bd_eq, hK.2 _ hb]
  unfold earOf ear
  rw [show (0 : Int32) = nI 0 from rfl, show (2 : Int32) = nI 2 from rfl, show (1 : Int32) = nI 1 from rfl]
  by_cases e : V 0 (K 0 k) = 0
  · rw [if_pos (by rw [e]), if_pos e]
  · rw [if_neg (by rw [N_inj (by omega) (by omega)]; exact e), if_neg e]
    cases b with
    | false => rw [if_pos (by rfl)]; rfl
    | true =>
      rw [if_neg (by decide), if_pos rfl]
      by_cases e2 : V 0 (K 0 k) = 2
      · rw [if_pos (by rw [e2]), if_pos e2, N_div (by omega) (by omega)]
      · rw [if_neg (by rw [N_inj (by omega) (by omega)]; exact e2), if_neg e2]
theorem c_early1 (hv : isV v) (hw : w 3 = v) (hk : isK kp) (g : GV V) (gk : GK V K) (ge : GE V E) (hV : RV c v V) (hK : RK c kp V K E) {k : Nat} (hlt : k < V 20 2) : X6_earlyIn 59 kp (nI k) 1 (enc c j w m n) = some (nI (earOf V K E k true), enc c j w m n) := c_early hv hw hk g gk ge hV hK hlt true
theorem c_early0 (hv : isV v) (hw : w 3 = v) (hk : isK kp) (g : GV V) (gk : GK V K) (ge : GE V E) (hV : RV c v V) (hK : RK c kp V K E) {k : Nat} (hlt : k < V 20 2) : X6_earlyIn 59 kp (nI k) 0 (enc c j w m n) = some (nI (earOf V K E k false), enc c j w m n) := c_early hv hw hk g gk ge hV hK hlt false
theorem pop_bits : ∀ x : Nat, x < 256 → (J6_bitCount_0f7a4 (nI x) (0, fun _ => .inr (0, []))).map Prod.fst = some (nI (pop8 x)) := by decide +kernel
theorem bitc {x : Nat} (hx : x < 256) (h : Hp) : J6_bitCount_0f7a4 (nI x) h = some (nI (pop8 x), h) := by
  have e := pop_bits x hx
  unfold J6_bitCount_0f7a4 at e ⊢
  simp only [pin_eq, Option.map_some, Option.some.injEq] at e ⊢
  rw [e]
theorem pop8_le : ∀ x : Nat, x < 256 → pop8 x ≤ 8 := by decide +kernel
theorem stl_le (g : GV V) (gk : GK V K) (ge : GE V E) {k : Nat} (hlt : k < V 20 2) : stl V K E k ≤ 160 := by
  unfold stl
  have h1 := pop8_le _ (lkOf_lt (K := K) g hlt)
  have h2 : earOf V K E k true ≤ 20 := Nat.le_trans ear_le (ge _ (gk k hlt).1)
  have h3 : earOf V K E k false ≤ 20 := Nat.le_trans ear_le (ge _ (gk k hlt).1)
  generalize pop8 (lkOf V K k) = p at *
  have h4 := Nat.mul_le_mul (Nat.le_refl p) h2
  have h5 := Nat.mul_le_mul (Nat.le_refl (8 - p)) h3
  omega
theorem c_stolen (hv : isV v) (hw : w 3 = v) (hk : isK kp) (g : GV V) (gk : GK V K) (ge : GE V E) (hV : RV c v V) (hK : RK c kp V K E) {k : Nat} (hlt : k < V 20 2) : X6_stolenIn 59 kp (nI k) (enc c j w m n) = some (nI (stl V K E k), enc c j w m n) := by
  unfold X6_stolenIn
  have h1 := pop8_le _ (lkOf_lt (K := K) g hlt)
  rw [cV_eq F59_is, c_looks hv hw hk g gk hV hK hlt, bd_eq, bitc (lkOf_lt g hlt), bd_eq, cV_eq F59_is, c_early1 hv hw hk g gk ge hV hK hlt, bd_eq, cV_eq F59_is, c_early0 hv hw hk g gk ge hV hK hlt, bd_eq, show (8 : Int32) = nI 8 from rfl, N_sub h1, N_mul, N_mul, N_add]
  rfl
theorem c_reckon (hv : isV v) (hw : w 3 = v) (hk : isK kp) (g : GV V) (gk : GK V K) (ge : GE V E) (hV : RV c v V) (hK : RK c kp V K E) : ∃ c', X6_reckon 59 kp (enc c j w m n) = some (enc c' j w m n) ∧ (∀ y, y ≠ 62 → c' y = c y) ∧ ∀ k, k < V 20 2 → c' 62 k = nI (stl V K E k) := by
  have g12 := g.1.2.2.1
  refine loop_up (z := fun _ _ _ _ => none) (s := X6_reckon_L2_s) (V 20 2) (fun i f => ∀ c0 : Nat → Nat → Int32, (∀ y, y ≠ 62 → c0 y = c y) → (∀ k, k < i → c0 62 k = nI (stl V K E k)) → ∃ c', f 59 kp (nI i) (enc c0 j w m n) = some (enc c' j w m n) ∧ (∀ y, y ≠ 62 → c' y = c y) ∧ ∀ k, k < V 20 2 → c' 62 k = nI (stl V K E k)) ?_ ?_ 5000 0 (Nat.zero_le _) (by omega) c (fun _ _ => rfl) (fun k h => absurd h (Nat.not_lt_zero _))
  · intro i f hi ih c0 f0 g0
    have hV0 : RV c0 v V := hV.fr hv fun y _ _ => f0 y (by omega)
    have hK0 : RK c0 kp V K E := hK.fr (f0 _ (by rcases hk with rfl | rfl | rfl | rfl | rfl <;> decide)) (f0 _ (by rcases hk with rfl | rfl | rfl | rfl | rfl <;> decide))
    unfold X6_reckon_L2_s
    rw [F59_3, hw, ob_some, V_2 hv, ob_some, T_count (V_wats hv), ob_some, show c0 (v + 5) 3 = nI (V 20 2) from hV0.1 2 (by omega), if_neg (by rw [N_le (by omega) (by omega)]; omega), F59_1, ob_some, cV_eq F59_is, c_stolen hv hw hk g gk ge hV0 hK0 hi, bd_eq, cVv_eq (T_is lost_T), T_put0 lost_T (by omega) (by omega), ob_some, show (1 : Int32) = nI 1 from rfl, N_add]
    refine ih _ (fun y hy => by simp only [va_up, if_neg hy]; exact f0 y hy) fun k hk' => ?_
    simp only [va_up, if_true, upd, Nat.mul_one]
    by_cases e : k = i
    · subst e; rw [if_pos rfl]
    · rw [if_neg e]; exact g0 k (by omega)
  · intro f c0 f0 g0
    refine ⟨c0, ?_, f0, g0⟩
    have hV0 : RV c0 v V := hV.fr hv fun y _ _ => f0 y (by omega)
    unfold X6_reckon_L2_s
    rw [F59_3, hw, ob_some, V_2 hv, ob_some, T_count (V_wats hv), ob_some, show c0 (v + 5) 3 = nI (V 20 2) from hV0.1 2 (by omega), if_pos (by rw [N_le (by omega) (by omega)]; omega)]
theorem c_lostBy {L : Nat → Nat} {q : Nat} (hq : q ≤ 12) (hL : ∀ k, k < q → c 62 k = nI (L k)) : X6_lostBy 59 (nI q) (enc c j w m n) = some (nI (sumN L q), enc c j w m n) := by
  refine loop_up (z := fun _ _ _ _ _ => none) (s := X6_lostBy_L4_s) q (fun i f => f 59 (nI q) (nI (sumN L i)) (nI i) (enc c j w m n) = some (nI (sumN L q), enc c j w m n)) ?_ ?_ 5000 0 (Nat.zero_le _) (by omega)
  · intro i f hi ih
    unfold X6_lostBy_L4_s
    rw [if_neg (by rw [N_le (by omega) (by omega)]; omega), F59_1, ob_some, cV_eq (T_is lost_T), T_cell0 lost_T (by omega) (by omega), bd_eq, Nat.mul_one, hL i hi, pin_eq, N_add, show (1 : Int32) = nI 1 from rfl, N_add]
    exact ih
  · intro f
    unfold X6_lostBy_L4_s
    rw [if_pos (by rw [N_le (by omega) (by omega)]; omega)]
theorem c_stolenOf (hv : isV v) (hw : w 3 = v) (hk : isK kp) (g : GV V) (gk : GK V K) (ge : GE V E) (hV : RV c v V) (hK : RK c kp V K E) {b : Nat} (hb : b < V 20 0) : X6_stolenOf 59 kp (nI b) (enc c j w m n) = some (nI (sumN (fun k => if K 0 k = b then stl V K E k else 0) (V 20 2)), enc c j w m n) := by
  have g12 := g.1.2.2.1
  have g5 := g.1.1
  refine loop_up (z := fun _ _ _ _ _ _ => none) (s := X6_stolenOf_L5_s) (V 20 2) (fun i f => f 59 kp (nI b) (nI (sumN (fun k => if K 0 k = b then stl V K E k else 0) i)) (nI i) (enc c j w m n) = some (nI (sumN (fun k => if K 0 k = b then stl V K E k else 0) (V 20 2)), enc c j w m n)) ?_ ?_ 5000 0 (Nat.zero_le _) (by omega)
  · intro i f hi ih
    have hb' := (gk i hi).1
    unfold X6_stolenOf_L5_s X6_stolenOf_B44
    rw [F59_3, hw, ob_some, V_2 hv, ob_some, T_count (V_wats hv), ob_some, show c (v + 5) 3 = nI (V 20 2) from hV.1 2 (by omega), if_neg (by rw [N_le (by omega) (by omega)]; omega), K_0 hk, ob_some, cV_eq (T_is (K_wats hk)), T_cell0 (K_wats hk) (by omega) (by omega), bd_eq, (hK.1 i hi).1]
    by_cases e : K 0 i = b
    · rw [if_pos (by rw [e]), cV_eq F59_is, c_stolen hv hw hk g gk ge hV hK hi, bd_eq, pin_eq, N_add, show (1 : Int32) = nI 1 from rfl, N_add]
      rw [show sumN (fun k => if K 0 k = b then stl V K E k else 0) i + stl V K E i = sumN (fun k => if K 0 k = b then stl V K E k else 0) (i + 1) by simp only [sumN, if_pos e]]
      exact ih
    · rw [if_neg (by rw [N_inj (by omega) (by omega)]; exact e), show (1 : Int32) = nI 1 from rfl, N_add]
      rw [show sumN (fun k => if K 0 k = b then stl V K E k else 0) i = sumN (fun k => if K 0 k = b then stl V K E k else 0) (i + 1) by simp only [sumN, if_neg e, Nat.add_zero]]
      exact ih
  · intro f
    unfold X6_stolenOf_L5_s
    rw [F59_3, hw, ob_some, V_2 hv, ob_some, T_count (V_wats hv), ob_some, show c (v + 5) 3 = nI (V 20 2) from hV.1 2 (by omega), if_pos (by rw [N_le (by omega) (by omega)]; omega)]
end
