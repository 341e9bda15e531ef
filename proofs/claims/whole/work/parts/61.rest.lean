/-! rests; how many bits -/
def rsB (p q : Nat) : Bool := if q = 0 then false else if q = 3 then decide (p ≤ 4) else decide (4 ≤ p)
def stS (p : Nat) (a b : Bool) : Int := if a then (if b then 3 - (p : Int) else 2) else (if b then -1 else 1)
def bI (b : Bool) : Int32 := if b then 1 else 0
theorem bI_0 (b : Bool) : bI b = 0 ↔ b = false := by cases b <;> decide
theorem stS_b {p : Nat} (hp : p < 10) (a b : Bool) : -10 ≤ stS p a b ∧ stS p a b ≤ 10 := by
  unfold stS; cases a <;> cases b <;> simp <;> omega
theorem c_share {p : Nat} (a b : Bool) (h : Hp) : X10_shareOf (nI p) (bI a) (bI b) h = some (iI (stS p a b), h) := by
  unfold X10_shareOf stS
  cases a <;> cases b
  · rfl
  · rfl
  · rfl
  · rw [if_neg (by decide), if_neg (by decide), nI_iI, show (3 : Int32) = iI 3 from rfl, Z_sub]; rfl
theorem m_share {p : Nat} (a b : Bool) (h : Hp) : X11_stealsOf (nI p) (bI a) (bI b) h = some (iI (stS p a b), h) := by
  unfold X11_stealsOf stS
  cases a <;> cases b
  · rfl
  · rfl
  · rfl
  · rw [if_neg (by decide), if_neg (by decide), nI_iI, show (3 : Int32) = iI 3 from rfl, Z_sub]; rfl
theorem rsB_ok {p : Nat} (hp : p < 10) (a b : Bool) : rsB p ((if a then 2 else 0) + (if b then 1 else 0)) = (decide (stS p (!a) b ≤ stS p a b) && decide (stS p (!b) a ≤ stS p b a)) := by
  have : ∀ p, p < 10 → ∀ a b : Bool, rsB p ((if a then 2 else 0) + (if b then 1 else 0)) = (decide (stS p (!a) b ≤ stS p a b) && decide (stS p (!b) a ≤ stS p b a)) := by decide
  exact this p hp a b
theorem c_isRestB {p : Nat} (hp : p < 10) (a b : Bool) (h : Hp) : X10_isRest_B23 (nI p) (bI a) (bI b) h = some (if rsB p ((if a then 2 else 0) + (if b then 1 else 0)) then 1 else 0, h) := by
  unfold X10_isRest_B23 X10_isRest_B40 X10_isRest_B63
  have s1 := stS_b hp a b
  have s2 := stS_b hp (!a) b
  have s3 := stS_b hp b a
  have s4 := stS_b hp (!b) a
  rw [c_share, bd_eq, rsB_ok hp]
  have key : (bd (X10_shareOf (nI p) (bI (!a)) (bI b) h) fun v302 h301 => if iI (stS p a b) < v302 then rZ 0 h301 else bd (X10_shareOf (nI p) (bI b) (bI a) h301) fun v304 h303 => if bI b = 0 then bd (X10_shareOf (nI p) 1 (bI a) h303) fun v402 h401 => if v304 < v402 then rZ 0 h401 else rZ 1 h401 else bd (X10_shareOf (nI p) 0 (bI a) h303) fun v402 h401 => if v304 < v402 then rZ 0 h401 else rZ 1 h401) = some (if (decide (stS p (!a) b ≤ stS p a b) && decide (stS p (!b) a ≤ stS p b a)) then 1 else 0, h) := by
    rw [c_share, bd_eq]
    by_cases e : stS p (!a) b ≤ stS p a b
    · rw [if_neg (by rw [Z_lt (by omega) (by omega) (by omega) (by omega)]; omega), c_share, bd_eq]
      have k2 : (bd (X10_shareOf (nI p) (bI (!b)) (bI a) h) fun v402 h401 => if iI (stS p b a) < v402 then rZ 0 h401 else rZ 1 h401) = some (if (decide (stS p (!a) b ≤ stS p a b) && decide (stS p (!b) a ≤ stS p b a)) then 1 else 0, h) := by
        rw [c_share, bd_eq]
        by_cases e2 : stS p (!b) a ≤ stS p b a
        · rw [if_neg (by rw [Z_lt (by omega) (by omega) (by omega) (by omega)]; omega), rZ_1]; simp [e, e2]
        · rw [if_pos (by rw [Z_lt (by omega) (by omega) (by omega) (by omega)]; omega), rZ_0]; simp [e2]
      cases b
      · rw [if_pos (by decide)]; exact k2
      · rw [if_neg (by decide)]; exact k2
    · rw [if_pos (by rw [Z_lt (by omega) (by omega) (by omega) (by omega)]; omega), rZ_0]; simp [e]
  cases a
  · rw [if_pos (by decide)]; exact key
  · rw [if_neg (by decide)]; exact key
theorem c_isRest {p q : Nat} (hp : p < 10) (hq : q < 4) (h : Hp) : X10_isRest (nI p) (nI q) h = some (if rsB p q then 1 else 0, h) := by
  unfold X10_isRest X10_isRest_B11
  have := c_isRestB hp
  match q, hq with
  | 0, _ => exact this false false h
  | 1, _ => exact this false true h
  | 2, _ => exact this true false h
  | 3, _ => exact this true true h
  | q + 4, z => omega
theorem c_restsL {p : Nat} (hp : p < 10) (h : Hp) : X10_rests_L24 5000 (nI p) 0 0 h = some (nI (cnt (rsB p) 4), h) := by
  refine loop_up (z := fun _ _ _ _ => none) (s := X10_rests_L24_s) 4 (fun i f => f (nI p) (nI (cnt (rsB p) i)) (nI i) h = some (nI (cnt (rsB p) 4), h)) ?_ ?_ 5000 0 (Nat.zero_le _) (by omega)
  · intro i f hi ih
    unfold X10_rests_L24_s X10_rests_B40
    rw [show (4 : Int32) = nI 4 from rfl, if_neg (by rw [N_le (by omega) (by omega)]; omega), c_isRest hp hi, bd_eq, show nI i + 1 = nI (i + 1) from N_add i 1]
    rw [cnt_succ] at ih
    cases e : rsB p i with
    | true =>
      rw [e] at ih
      rw [if_neg (show ¬ (if true = true then (1 : Int32) else 0) = 0 by decide), show nI (cnt (rsB p) i) + 1 = nI (cnt (rsB p) i + 1) from N_add _ 1]; exact ih
    | false =>
      rw [e] at ih
      rw [if_pos (show (if false = true then (1 : Int32) else 0) = 0 by decide)]; exact ih
  · intro f
    unfold X10_rests_L24_s
    rw [if_pos (by decide)]
def rsF (p : Nat) : Int := if fiF (rsB p) 4 = -2 then -2 else 10 * (fiF (rsB p) 4 / 2) + fiF (rsB p) 4 % 2
theorem c_restL {p : Nat} (hp : p < 10) (h : Hp) : X10_rest_L22 5000 (nI p) 0 h = some (iI (rsF p), h) := by
  refine loop_up (z := fun _ _ _ => none) (s := X10_rest_L22_s) 4 (fun i f => (∀ i', i' < i → rsB p i' = false) → f (nI p) (nI i) h = some (iI (rsF p), h)) ?_ ?_ 5000 0 (Nat.zero_le _) (by omega) (fun i h => absurd h (Nat.not_lt_zero _))
  · intro i f hi ih hn
    unfold X10_rest_L22_s
    rw [show (4 : Int32) = nI 4 from rfl, if_neg (by rw [N_le (by omega) (by omega)]; omega), c_isRest hp hi, bd_eq, show nI i + 1 = nI (i + 1) from N_add i 1]
    cases e : rsB p i with
    | true =>
      rw [if_neg (show ¬ (if true = true then (1 : Int32) else 0) = 0 by decide)]
      have hf : fiF (rsB p) 4 = i := fiF_at e hn hi
      unfold rsF
      rw [hf, if_neg (by omega)]
      have : ∀ i : Nat, i < 4 → ((10 * (nI i >>> ((1 : Int32) &&& 31))) + (nI i &&& 1)) = iI (10 * ((i : Int) / 2) + (i : Int) % 2) := by decide
      rw [this i hi]
    | false =>
      rw [if_pos (show (if false = true then (1 : Int32) else 0) = 0 by decide)]
      refine ih fun i' hi' => ?_
      rcases Nat.lt_or_eq_of_le (Nat.le_of_lt_succ hi') with h1 | h1
      · exact hn i' h1
      · subst h1; exact e
  · intro f hn
    unfold X10_rest_L22_s
    rw [if_pos (by decide)]
    unfold rsF
    rw [fiF_none hn]; rfl
section
variable {c : Nat → Nat → Int32} {j : Nat → Nat → Int64} {w : Nat → Nat} {m : Nat → Nat → Int32} {n : Nat → Nat → Int64} {V K : Nat → Nat → Nat} {E L : Nat → Nat} {S : Nat → Bool}
def rsX (p : Nat) : Nat → Int
  | 0 => -2
  | i + 1 => if rsB p i = true ∧ cnt (rsB p) i = 0 then 10 * ((i : Int) / 2) + (i : Int) % 2 else rsX p i
theorem rsX_F : ∀ p, p < 10 → rsX p 4 = rsF p := by decide
theorem m_restB {p i : Nat} (hp : p < 10) (a b : Bool) (hi : i < 4) (hab : (if a then 2 else 0) + (if b then 1 else 0) = i) {f : Nat → Int32 → Int32 → Int32 → Hp → Option (Int32 × Hp)} : X11_seekRests_B39 f 75 (nI p) (nI (cnt (rsB p) i)) (nI i) (bI a) (bI b) (enc c j w m n) = if rsB p i then f 75 (nI p) (nI (cnt (rsB p) i + 1)) (nI (i + 1)) (enc c j w (if cnt (rsB p) i = 0 then va_up m 75 (upd (m 75) 44 (iI (10 * ((i : Int) / 2) + (i : Int) % 2))) else m) n) else f 75 (nI p) (nI (cnt (rsB p) i)) (nI (i + 1)) (enc c j w m n) := by
  have s1 := stS_b hp a b
  have s2 := stS_b hp (!a) b
  have s3 := stS_b hp b a
  have s4 := stS_b hp (!b) a
  have hc := cnt_le (p := rsB p) i
  have hr := rsB_ok hp a b
  rw [hab] at hr
  have fin : stS p (!a) b ≤ stS p a b → X11_seekRests_B79 f 75 (nI p) (nI (cnt (rsB p) i)) (nI i) (bI a) (bI b) (nI p) (bI (!b)) (enc c j w m n) = if rsB p i then f 75 (nI p) (nI (cnt (rsB p) i + 1)) (nI (i + 1)) (enc c j w (if cnt (rsB p) i = 0 then va_up m 75 (upd (m 75) 44 (iI (10 * ((i : Int) / 2) + (i : Int) % 2))) else m) n) else f 75 (nI p) (nI (cnt (rsB p) i)) (nI (i + 1)) (enc c j w m n) := by
    intro e
    unfold X11_seekRests_B79 X11_seekRests_B116 X11_seekRests_B119
    rw [m_share, bd_eq, m_share, bd_eq, show nI i + 1 = nI (i + 1) from N_add i 1, show nI (cnt (rsB p) i) + 1 = nI (cnt (rsB p) i + 1) from N_add _ 1]
    by_cases e2 : stS p (!b) a ≤ stS p b a
    · have er : rsB p i = true := by rw [hr]; simp [e, e2]
      rw [if_pos (by rw [Z_le (by omega) (by omega) (by omega) (by omega)]; exact e2), er, if_pos rfl]
      by_cases e3 : cnt (rsB p) i = 0
      · have ev : ∀ i : Nat, i < 4 → (10 * (nI i / 2)) + (nI i - nI i / 2 * 2) = iI (10 * ((i : Int) / 2) + (i : Int) % 2) := by decide
        rw [if_pos (by rw [e3]; rfl), if_pos e3, P75_44, ob_some, ev i hi]
      · rw [if_neg (by rw [show (0 : Int32) = nI 0 from rfl, N_inj (by omega) (by omega)]; exact e3), if_neg e3]
    · have er : rsB p i = false := by rw [hr]; simp [e2]
      rw [if_neg (by rw [Z_le (by omega) (by omega) (by omega) (by omega)]; exact e2), er, if_neg (by decide)]
  have key : X11_seekRests_B52 f 75 (nI p) (nI (cnt (rsB p) i)) (nI i) (bI a) (bI b) (nI p) (bI (!a)) (enc c j w m n) = if rsB p i then f 75 (nI p) (nI (cnt (rsB p) i + 1)) (nI (i + 1)) (enc c j w (if cnt (rsB p) i = 0 then va_up m 75 (upd (m 75) 44 (iI (10 * ((i : Int) / 2) + (i : Int) % 2))) else m) n) else f 75 (nI p) (nI (cnt (rsB p) i)) (nI (i + 1)) (enc c j w m n) := by
    unfold X11_seekRests_B52
    rw [m_share, bd_eq, m_share, bd_eq]
    by_cases e : stS p (!a) b ≤ stS p a b
    · rw [if_neg (by rw [Z_lt (by omega) (by omega) (by omega) (by omega)]; omega)]
      have := fin e
      cases b
      · rw [if_pos (by decide)]; exact this
      · rw [if_neg (by decide)]; exact this
    · have er : rsB p i = false := by rw [hr]; simp [e]
      rw [if_pos (by rw [Z_lt (by omega) (by omega) (by omega) (by omega)]; omega), er, if_neg (by decide)]
      unfold X11_seekRests_B119
      rw [show nI i + 1 = nI (i + 1) from N_add i 1]
  unfold X11_seekRests_B39
  cases a
  · rw [if_pos (by decide)]; exact key
  · rw [if_neg (by decide)]; exact key
theorem m_seekRests {p : Nat} (hp : p < 10) : ∃ m', X11_seekRests 75 (nI p) (enc c j w m n) = some (nI (cnt (rsB p) 4), enc c j w m' n) ∧ mf m m' ∧ m' 75 44 = iI (rsF p) := by
  unfold X11_seekRests
  rw [P75_44, ob_some, ← rsX_F p hp]
  refine loop_up (z := fun _ _ _ _ _ => none) (s := X11_seekRests_L10_s) 4 (fun i f => ∀ m1, mf m m1 → m1 75 44 = iI (rsX p i) → ∃ m', f 75 (nI p) (nI (cnt (rsB p) i)) (nI i) (enc c j w m1 n) = some (nI (cnt (rsB p) 4), enc c j w m' n) ∧ mf m m' ∧ m' 75 44 = iI (rsX p 4)) ?_ ?_ 5000 0 (Nat.zero_le _) (by omega) _ (mf_75 (mf.rf m) fun f h1 h2 => upd_ne (by omega)) (by rw [vup_at, upd_at]; rfl)
  · intro i f hi ih m1 f1 s1
    have E : X11_seekRests_L10_s f 75 (nI p) (nI (cnt (rsB p) i)) (nI i) (enc c j w m1 n) = if rsB p i then f 75 (nI p) (nI (cnt (rsB p) i + 1)) (nI (i + 1)) (enc c j w (if cnt (rsB p) i = 0 then va_up m1 75 (upd (m1 75) 44 (iI (10 * ((i : Int) / 2) + (i : Int) % 2))) else m1) n) else f 75 (nI p) (nI (cnt (rsB p) i)) (nI (i + 1)) (enc c j w m1 n) := by
      unfold X11_seekRests_L10_s X11_seekRests_B25
      match i, hi with
      | 0, h => exact m_restB hp false false h rfl
      | 1, h => exact m_restB hp false true h rfl
      | 2, h => exact m_restB hp true false h rfl
      | 3, h => exact m_restB hp true true h rfl
      | i + 4, z => omega
    rw [E]
    cases e : rsB p i with
    | true =>
      rw [if_pos rfl]
      by_cases e3 : cnt (rsB p) i = 0
      · rw [if_pos e3]
        have := ih _ (mf_75 f1 fun f h1 h2 => upd_ne (b := f) (a := 44) (by omega)) (by rw [vup_at, upd_at, rsX, if_pos ⟨e, e3⟩])
        rw [cnt_succ, e] at this; exact this
      · rw [if_neg e3]
        have := ih m1 f1 (by rw [s1, rsX, if_neg (fun z => e3 z.2)])
        rw [cnt_succ, e] at this; exact this
    | false =>
      rw [if_neg (by decide)]
      have := ih m1 f1 (by rw [s1, rsX, if_neg (fun z => by rw [e] at z; exact absurd z.1 (by decide))])
      rw [cnt_succ, e] at this; exact this
  · intro f m1 f1 s1
    refine ⟨m1, ?_, f1, s1⟩
    unfold X11_seekRests_L10_s
    rw [if_pos (by decide)]
end
/-- sixteen bits -/
theorem U_shr {a k : Nat} {s : UInt32} (ha : a < 2147483648) (hk : k < 32) (hs : s.toBitVec % 32#32 = BitVec.ofNat 32 k) : ((nI a).toUInt32 >>> s).toInt32 = nI (a >>> k) := by
  apply Int32.toBitVec_inj.mp
  show ((nI a).toUInt32 >>> s).toBitVec = BitVec.ofNat 32 (a >>> k)
  rw [UInt32.toBitVec_shiftRight]
  show BitVec.ofNat 32 a >>> (s.toBitVec % 32#32) = _
  rw [hs]
  apply BitVec.eq_of_toNat_eq
  rw [BitVec.ushiftRight_eq', BitVec.toNat_ushiftRight, BitVec.toNat_ofNat, BitVec.toNat_ofNat, BitVec.toNat_ofNat, Nat.mod_eq_of_lt (by omega), Nat.mod_eq_of_lt (by omega), Nat.mod_eq_of_lt]
  rw [Nat.shiftRight_eq_div_pow]
  exact Nat.lt_of_le_of_lt (Nat.div_le_self _ _) (by omega)
def bc1 (x : Nat) : Nat := x - ((x >>> 1) &&& 1431655765)
def bc2 (x : Nat) : Nat := (x &&& 858993459) + ((x >>> 2) &&& 858993459)
def bc3 (x : Nat) : Nat := (x + (x >>> 4)) &&& 252645135
def bc4 (x : Nat) : Nat := x + (x >>> 8)
def bc5 (x : Nat) : Nat := x + (x >>> 16)
def bcN (x : Nat) : Nat := bc5 (bc4 (bc3 (bc2 (bc1 x)))) &&& 63
theorem bc_all : ∀ a, a < 256 → ∀ b, b < 256 → bcN (256 * a + b) = bcN a + bcN b := by decide +kernel
theorem bc_8 : ∀ b, b < 256 → bcN b = pop8 b := by decide +kernel
theorem bit16 {x : Nat} (hx : x < 65536) (h : Hp) : J6_bitCount_0f7a4 (nI x) h = some (nI (bcN x), h) := by
  have l1 : (x >>> 1) &&& 1431655765 ≤ x := Nat.le_trans Nat.and_le_left (by rw [Nat.shiftRight_eq_div_pow]; exact Nat.div_le_self _ _)
  have h1 : bc1 x < 65536 := by unfold bc1; omega
  have q2 : (bc1 x >>> 2) ≤ bc1 x := by rw [Nat.shiftRight_eq_div_pow]; exact Nat.div_le_self _ _
  have h2 : bc2 (bc1 x) < 200000 := by
    unfold bc2
    have a1 : bc1 x &&& 858993459 ≤ bc1 x := Nat.and_le_left
    have a2 : (bc1 x >>> 2) &&& 858993459 ≤ bc1 x >>> 2 := Nat.and_le_left
    omega
  generalize hy : bc2 (bc1 x) = y at h2
  have q3 : (y >>> 4) ≤ y := by rw [Nat.shiftRight_eq_div_pow]; exact Nat.div_le_self _ _
  have h3 : bc3 y < 400000 := by
    unfold bc3
    have a1 : (y + (y >>> 4)) &&& 252645135 ≤ y + (y >>> 4) := Nat.and_le_left
    omega
  generalize hz : bc3 y = z at h3
  have q4 : (z >>> 8) ≤ z := by rw [Nat.shiftRight_eq_div_pow]; exact Nat.div_le_self _ _
  have h4 : bc4 z < 1000000 := by unfold bc4; omega
  unfold J6_bitCount_0f7a4
  rw [pin_eq, U_shr (k := 1) (by omega) (by omega) (by decide), show (1431655765 : Int32) = nI 1431655765 from rfl, N_and, N_sub l1, show x - (x >>> 1 &&& 1431655765) = bc1 x from rfl, pin_eq, U_shr (k := 2) (by omega) (by omega) (by decide), show (858993459 : Int32) = nI 858993459 from rfl, N_and, N_and, N_add, show (bc1 x &&& 858993459) + (bc1 x >>> 2 &&& 858993459) = bc2 (bc1 x) from rfl, hy, pin_eq, U_shr (k := 4) (by omega) (by omega) (by decide), show (252645135 : Int32) = nI 252645135 from rfl, N_add, N_and, show (y + y >>> 4) &&& 252645135 = bc3 y from rfl, hz, pin_eq, U_shr (k := 8) (by omega) (by omega) (by decide), N_add, show z + z >>> 8 = bc4 z from rfl, pin_eq, U_shr (k := 16) (by omega) (by omega) (by decide), N_add, show bc4 z + bc4 z >>> 16 = bc5 (bc4 z) from rfl, show (63 : Int32) = nI 63 from rfl, N_and]
  unfold bcN
  rw [hy, hz]
theorem bc_cnt {x : Nat} (hx : x < 65536) : bcN x = cnt (bits x) 16 := by
  have e : x = 256 * (x / 256) + x % 256 := by omega
  have ha : x / 256 < 256 := by omega
  have hb : x % 256 < 256 := by omega
  have hadd : cnt (bits x) (8 + 8) = cnt (bits x) 8 + cnt (fun i => bits x (8 + i)) 8 := sumN_add 8 8
  have t1 : cnt (bits x) 8 = cnt (bits (x % 256)) 8 := cnt_congr fun k hk => by
    unfold bits
    conv => lhs; rw [e]
    rw [show 256 * (x / 256) + x % 256 = 2 ^ 8 * (x / 256) + x % 256 from rfl, Nat.testBit_two_pow_mul_add _ (by exact hb), if_pos hk]
  have t2 : cnt (fun i => bits x (8 + i)) 8 = cnt (bits (x / 256)) 8 := cnt_congr fun k hk => by
    unfold bits
    conv => lhs; rw [e]
    rw [show 256 * (x / 256) + x % 256 = 2 ^ 8 * (x / 256) + x % 256 from rfl, Nat.testBit_two_pow_mul_add _ (by exact hb), if_neg (by omega), Nat.add_sub_cancel_left]
  rw [show (16 : Nat) = 8 + 8 from rfl, hadd, t1, t2, ← pop_cnt _ hb, ← pop_cnt _ ha, ← bc_8 _ ha, ← bc_8 _ hb, Nat.add_comm, ← bc_all _ ha _ hb, ← e]
theorem cnt_fm {p : Nat → Bool} {N : Nat} (hN : N ≤ 16) : cnt (bits (fm p N)) 16 = cnt p N := by
  have hb : ∀ i, bits (fm p N) i = (decide (i < N) && p i) := fun i => fm_bit N i
  have hadd : cnt (bits (fm p N)) (N + (16 - N)) = cnt (bits (fm p N)) N + cnt (fun i => bits (fm p N) (N + i)) (16 - N) := sumN_add N (16 - N)
  rw [show N + (16 - N) = 16 by omega] at hadd
  have h1 : cnt (bits (fm p N)) N = cnt p N := cnt_congr fun k hk => by rw [hb]; simp [hk]
  have h2 : cnt (fun i => bits (fm p N) (N + i)) (16 - N) = cnt (bits 0) (16 - N) := cnt_congr fun k hk => by
    have h3 : ¬ (N + k < N) := by omega
    show bits (fm p N) (N + k) = bits 0 k
    rw [hb]; simp [bits, h3]
  rw [hadd, h1, h2, cnt0, Nat.add_zero]
