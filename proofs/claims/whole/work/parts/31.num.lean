/-! numbers of the machine that stand for whole numbers -/
def iI (z : Int) : Int32 := Int32.ofInt z
theorem nI_iI (k : Nat) : nI k = iI k := by unfold nI iI; apply Int32.toBitVec_inj.mp; simp
theorem Z_toInt {z : Int} (h1 : -2147483648 ≤ z) (h2 : z < 2147483648) : (iI z).toInt = z := Int32.toInt_ofInt_of_le h1 h2
theorem N_toInt {k : Nat} (h : k < 2147483648) : (nI k).toInt = k := by rw [nI_iI, Z_toInt (by omega) (by omega)]
theorem N_tn {k : Nat} (h : k < 2147483648) : (nI k).toNatClampNeg = k := by
  unfold Int32.toNatClampNeg; rw [N_toInt h]; simp
theorem Z_add (a b : Int) : iI a + iI b = iI (a + b) := (Int32.ofInt_add a b).symm
theorem Z_mul (a b : Int) : iI a * iI b = iI (a * b) := (Int32.ofInt_mul a b).symm
theorem Z_sub (a b : Int) : iI a - iI b = iI (a - b) := (Int32.ofInt_sub a b).symm
theorem Z_neg (a : Int) : - iI a = iI (-a) := (Int32.ofInt_neg a).symm
theorem N_add (a b : Nat) : nI a + nI b = nI (a + b) := by simp only [nI_iI, Z_add, Int.natCast_add]
theorem N_mul (a b : Nat) : nI a * nI b = nI (a * b) := by simp only [nI_iI, Z_mul, Int.natCast_mul]
theorem N_sub {a b : Nat} (h : b ≤ a) : nI a - nI b = nI (a - b) := by simp only [nI_iI, Z_sub]; congr 1; omega
theorem Z_lt {a b : Int} (ha : -2147483648 ≤ a) (ha' : a < 2147483648) (hb : -2147483648 ≤ b) (hb' : b < 2147483648) : (iI a < iI b) ↔ a < b := by
  rw [Int32.lt_iff_toInt_lt, Z_toInt ha ha', Z_toInt hb hb']
theorem Z_le {a b : Int} (ha : -2147483648 ≤ a) (ha' : a < 2147483648) (hb : -2147483648 ≤ b) (hb' : b < 2147483648) : (iI a ≤ iI b) ↔ a ≤ b := by
  rw [Int32.le_iff_toInt_le, Z_toInt ha ha', Z_toInt hb hb']
theorem Z_inj {a b : Int} (ha : -2147483648 ≤ a) (ha' : a < 2147483648) (hb : -2147483648 ≤ b) (hb' : b < 2147483648) : (iI a = iI b) ↔ a = b := by
  rw [← Int32.toInt_inj, Z_toInt ha ha', Z_toInt hb hb']
theorem N_lt {a b : Nat} (ha : a < 2147483648) (hb : b < 2147483648) : (nI a < nI b) ↔ a < b := by
  rw [nI_iI, nI_iI, Z_lt (by omega) (by omega) (by omega) (by omega)]; omega
theorem N_le {a b : Nat} (ha : a < 2147483648) (hb : b < 2147483648) : (nI a ≤ nI b) ↔ a ≤ b := by
  rw [nI_iI, nI_iI, Z_le (by omega) (by omega) (by omega) (by omega)]; omega
theorem N_inj {a b : Nat} (ha : a < 2147483648) (hb : b < 2147483648) : (nI a = nI b) ↔ a = b := by
  rw [nI_iI, nI_iI, Z_inj (by omega) (by omega) (by omega) (by omega)]; omega
theorem N_lt0 {a : Nat} (ha : a < 2147483648) : (nI a < 0) ↔ False := by
  show nI a < nI 0 ↔ False
  rw [N_lt ha (by omega)]; simp
theorem i_of (x : Int32) : x = iI x.toInt := by unfold iI; rw [Int32.ofInt_toInt]
theorem i_lo (x : Int32) : -2147483648 ≤ x.toInt := Int32.le_toInt x
theorem i_hi (x : Int32) : x.toInt < 2147483648 := Int32.toInt_lt x
/-- a machine number between 0 and a small bound is a small number -/
theorem n_of {x : Int32} {k : Nat} (h0 : ¬ x < 0) (hk : x < nI k) (hb : k < 2147483648) : ∃ i, i < k ∧ x = nI i := by
  have e := i_of x
  have h1 := i_lo x
  have h2 := i_hi x
  refine ⟨x.toInt.toNat, ?_, ?_⟩
  · have : (0:Int32) = iI 0 := rfl
    rw [e, this, Z_lt h1 h2 (by omega) (by omega)] at h0
    rw [e, nI_iI, Z_lt h1 h2 (by omega) (by omega)] at hk
    omega
  · have : (0:Int32) = iI 0 := rfl
    rw [e, this, Z_lt h1 h2 (by omega) (by omega)] at h0
    rw [nI_iI, show ((x.toInt.toNat : Nat) : Int) = x.toInt by omega]; exact e
theorem n_pos {x : Int32} (h0 : ¬ x < 0) : ∃ i, i < 2147483648 ∧ x = nI i := by
  have e := i_of x
  have h1 := i_lo x
  have h2 := i_hi x
  have : (0:Int32) = iI 0 := rfl
  rw [e, this, Z_lt h1 h2 (by omega) (by omega)] at h0
  exact ⟨x.toInt.toNat, by omega, by rw [nI_iI, show ((x.toInt.toNat : Nat) : Int) = x.toInt by omega]; exact e⟩
theorem N_div {a b : Nat} (ha : a < 2147483648) (hb : b < 2147483648) : nI a / nI b = nI (a / b) := by
  apply Int32.toInt_inj.mp
  rw [Int32.toInt_div_of_ne_left, N_toInt ha, N_toInt hb, N_toInt (by exact Nat.lt_of_le_of_lt (Nat.div_le_self _ _) ha)]
  · exact Int.ofNat_tdiv a b |>.symm ▸ rfl
  · intro e
    have := congrArg Int32.toInt e
    rw [N_toInt ha] at this
    have h3 : Int32.toInt Int32.minValue = -2147483648 := by decide
    omega
theorem N_mod {a b : Nat} (ha : a < 2147483648) (hb : b < 2147483648) : nI a - nI a / nI b * nI b = nI (a % b) := by
  rw [N_div ha hb, N_mul, N_sub (Nat.div_mul_le_self a b)]
  congr 1
  have := Nat.div_add_mod a b
  rw [Nat.mul_comm] at this
  omega
theorem N_and {a b : Nat} : nI a &&& nI b = nI (a &&& b) := by
  unfold nI; apply Int32.toBitVec_inj.mp; simp [BitVec.ofNat_and]
theorem N_or {a b : Nat} : nI a ||| nI b = nI (a ||| b) := by
  unfold nI; apply Int32.toBitVec_inj.mp; simp [BitVec.ofNat_or]
theorem N_xor {a b : Nat} : nI a ^^^ nI b = nI (a ^^^ b) := by
  unfold nI; apply Int32.toBitVec_inj.mp; simp [BitVec.ofNat_xor]
theorem sh_amt : ∀ b : Nat, b < 32 → ((nI b &&& 31).toBitVec.smod 32) = BitVec.ofNat 32 b := by decide
theorem N_shl {a b : Nat} (hb : b < 32) : nI a <<< (nI b &&& 31) = nI (a <<< b) := by
  apply Int32.toBitVec_inj.mp
  rw [Int32.toBitVec_shiftLeft, sh_amt b hb, BitVec.shiftLeft_eq', BitVec.toNat_ofNat, Nat.mod_eq_of_lt (by omega)]
  unfold nI
  rw [Int32.toBitVec_ofNat', Int32.toBitVec_ofNat']
  apply BitVec.eq_of_toNat_eq
  simp [Nat.shiftLeft_eq]
theorem N_shr {a b : Nat} (ha : a < 2147483648) (hb : b < 32) : nI a >>> (nI b &&& 31) = nI (a >>> b) := by
  apply Int32.toBitVec_inj.mp
  rw [Int32.toBitVec_shiftRight, sh_amt b hb, BitVec.sshiftRight_eq', BitVec.toNat_ofNat, Nat.mod_eq_of_lt (by omega)]
  unfold nI
  rw [Int32.toBitVec_ofNat', Int32.toBitVec_ofNat', BitVec.sshiftRight_eq_of_msb_false]
  · apply BitVec.eq_of_toNat_eq
    rw [BitVec.toNat_ushiftRight, BitVec.toNat_ofNat, BitVec.toNat_ofNat, Nat.mod_eq_of_lt (by omega), Nat.mod_eq_of_lt]
    rw [Nat.shiftRight_eq_div_pow]
    exact Nat.lt_of_le_of_lt (Nat.div_le_self _ _) (by omega)
  · rw [BitVec.msb_eq_decide]; simp; omega
theorem N_bit {a b : Nat} (ha : a < 2147483648) (hb : b < 32) : (nI a >>> (nI b &&& 31)) &&& 1 = if a.testBit b then 1 else 0 := by
  rw [N_shr ha hb, show (1 : Int32) = nI 1 from rfl, N_and]
  rw [Nat.testBit, Nat.and_comm, Nat.one_and_eq_mod_two]
  rcases Nat.mod_two_eq_zero_or_one (a >>> b) with h | h
  · simp [h]; rfl
  · simp [h]
