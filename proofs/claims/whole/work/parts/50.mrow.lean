/-! the reference: its fields and rows -/
section
variable {c : Nat → Nat → Int32} {j : Nat → Nat → Int64} {w : Nat → Nat} {m : Nat → Nat → Int32} {n : Nat → Nat → Int64}
theorem R75_1 : gR (enc c j w m n) 75 11 1 = some 76 := gR_k rfl rfl
theorem R75_12 : gR (enc c j w m n) 75 11 12 = some 77 := gR_k rfl rfl
theorem R75_15 : gR (enc c j w m n) 75 11 15 = some 78 := gR_k rfl rfl
theorem R75_16 : gR (enc c j w m n) 75 11 16 = some 79 := gR_k rfl rfl
theorem R75_17 : gR (enc c j w m n) 75 11 17 = some 80 := gR_k rfl rfl
theorem R75_18 : gR (enc c j w m n) 75 11 18 = some 81 := gR_k rfl rfl
theorem R75_19 : gR (enc c j w m n) 75 11 19 = some 82 := gR_k rfl rfl
theorem R75_20 : gR (enc c j w m n) 75 11 20 = some 83 := gR_k rfl rfl
theorem R75_21 : gR (enc c j w m n) 75 11 21 = some 84 := gR_k rfl rfl
theorem R75_24 : gR (enc c j w m n) 75 11 24 = some 85 := gR_k rfl rfl
theorem R75_25 : gR (enc c j w m n) 75 11 25 = some 86 := gR_k rfl rfl
theorem R75_26 : gR (enc c j w m n) 75 11 26 = some 87 := gR_k rfl rfl
theorem R75_27 : gR (enc c j w m n) 75 11 27 = some 88 := gR_k rfl rfl
theorem R75_28 : gR (enc c j w m n) 75 11 28 = some 89 := gR_k rfl rfl
theorem R75_29 : gR (enc c j w m n) 75 11 29 = some 90 := gR_k rfl rfl
theorem R75_30 : gR (enc c j w m n) 75 11 30 = some 91 := gR_k rfl rfl
theorem R75_34 : gR (enc c j w m n) 75 11 34 = some 92 := gR_k rfl rfl
theorem R75_35 : gR (enc c j w m n) 75 11 35 = some 93 := gR_k rfl rfl
theorem R75_36 : gR (enc c j w m n) 75 11 36 = some 94 := gR_k rfl rfl
theorem I75_0 : gI (enc c j w m n) 75 11 0 = some (m 75 0) := gI_m rfl rfl (by decide)
theorem P75_0 {x : Int32} : pF (enc c j w m n) 75 11 0 (.int x) = some (enc c j w (va_up m 75 (upd (m 75) 0 x)) n) := pF_m rfl rfl (by decide)
theorem I75_2 : gI (enc c j w m n) 75 11 2 = some (m 75 2) := gI_m rfl rfl (by decide)
theorem P75_2 {x : Int32} : pF (enc c j w m n) 75 11 2 (.int x) = some (enc c j w (va_up m 75 (upd (m 75) 2 x)) n) := pF_m rfl rfl (by decide)
theorem I75_3 : gI (enc c j w m n) 75 11 3 = some (m 75 3) := gI_m rfl rfl (by decide)
theorem P75_3 {x : Int32} : pF (enc c j w m n) 75 11 3 (.int x) = some (enc c j w (va_up m 75 (upd (m 75) 3 x)) n) := pF_m rfl rfl (by decide)
theorem I75_4 : gI (enc c j w m n) 75 11 4 = some (m 75 4) := gI_m rfl rfl (by decide)
theorem P75_4 {x : Int32} : pF (enc c j w m n) 75 11 4 (.int x) = some (enc c j w (va_up m 75 (upd (m 75) 4 x)) n) := pF_m rfl rfl (by decide)
theorem I75_5 : gI (enc c j w m n) 75 11 5 = some (m 75 5) := gI_m rfl rfl (by decide)
theorem P75_5 {x : Int32} : pF (enc c j w m n) 75 11 5 (.int x) = some (enc c j w (va_up m 75 (upd (m 75) 5 x)) n) := pF_m rfl rfl (by decide)
theorem I75_6 : gI (enc c j w m n) 75 11 6 = some (m 75 6) := gI_m rfl rfl (by decide)
theorem P75_6 {x : Int32} : pF (enc c j w m n) 75 11 6 (.int x) = some (enc c j w (va_up m 75 (upd (m 75) 6 x)) n) := pF_m rfl rfl (by decide)
theorem I75_7 : gI (enc c j w m n) 75 11 7 = some (m 75 7) := gI_m rfl rfl (by decide)
theorem P75_7 {x : Int32} : pF (enc c j w m n) 75 11 7 (.int x) = some (enc c j w (va_up m 75 (upd (m 75) 7 x)) n) := pF_m rfl rfl (by decide)
theorem I75_8 : gI (enc c j w m n) 75 11 8 = some (m 75 8) := gI_m rfl rfl (by decide)
theorem P75_8 {x : Int32} : pF (enc c j w m n) 75 11 8 (.int x) = some (enc c j w (va_up m 75 (upd (m 75) 8 x)) n) := pF_m rfl rfl (by decide)
theorem I75_9 : gI (enc c j w m n) 75 11 9 = some (m 75 9) := gI_m rfl rfl (by decide)
theorem P75_9 {x : Int32} : pF (enc c j w m n) 75 11 9 (.int x) = some (enc c j w (va_up m 75 (upd (m 75) 9 x)) n) := pF_m rfl rfl (by decide)
theorem I75_10 : gI (enc c j w m n) 75 11 10 = some (m 75 10) := gI_m rfl rfl (by decide)
theorem P75_10 {x : Int32} : pF (enc c j w m n) 75 11 10 (.int x) = some (enc c j w (va_up m 75 (upd (m 75) 10 x)) n) := pF_m rfl rfl (by decide)
theorem I75_11 : gI (enc c j w m n) 75 11 11 = some (m 75 11) := gI_m rfl rfl (by decide)
theorem P75_11 {x : Int32} : pF (enc c j w m n) 75 11 11 (.int x) = some (enc c j w (va_up m 75 (upd (m 75) 11 x)) n) := pF_m rfl rfl (by decide)
theorem I75_13 : gI (enc c j w m n) 75 11 13 = some (m 75 13) := gI_m rfl rfl (by decide)
theorem P75_13 {x : Int32} : pF (enc c j w m n) 75 11 13 (.int x) = some (enc c j w (va_up m 75 (upd (m 75) 13 x)) n) := pF_m rfl rfl (by decide)
theorem I75_14 : gI (enc c j w m n) 75 11 14 = some (m 75 14) := gI_m rfl rfl (by decide)
theorem P75_14 {x : Int32} : pF (enc c j w m n) 75 11 14 (.int x) = some (enc c j w (va_up m 75 (upd (m 75) 14 x)) n) := pF_m rfl rfl (by decide)
theorem I75_22 : gI (enc c j w m n) 75 11 22 = some (m 75 22) := gI_m rfl rfl (by decide)
theorem P75_22 {x : Int32} : pF (enc c j w m n) 75 11 22 (.int x) = some (enc c j w (va_up m 75 (upd (m 75) 22 x)) n) := pF_m rfl rfl (by decide)
theorem I75_23 : gI (enc c j w m n) 75 11 23 = some (m 75 23) := gI_m rfl rfl (by decide)
theorem P75_23 {x : Int32} : pF (enc c j w m n) 75 11 23 (.int x) = some (enc c j w (va_up m 75 (upd (m 75) 23 x)) n) := pF_m rfl rfl (by decide)
theorem I75_31 : gI (enc c j w m n) 75 11 31 = some (m 75 31) := gI_m rfl rfl (by decide)
theorem P75_31 {x : Int32} : pF (enc c j w m n) 75 11 31 (.int x) = some (enc c j w (va_up m 75 (upd (m 75) 31 x)) n) := pF_m rfl rfl (by decide)
theorem I75_32 : gI (enc c j w m n) 75 11 32 = some (m 75 32) := gI_m rfl rfl (by decide)
theorem P75_32 {x : Int32} : pF (enc c j w m n) 75 11 32 (.int x) = some (enc c j w (va_up m 75 (upd (m 75) 32 x)) n) := pF_m rfl rfl (by decide)
theorem I75_33 : gI (enc c j w m n) 75 11 33 = some (m 75 33) := gI_m rfl rfl (by decide)
theorem P75_33 {x : Int32} : pF (enc c j w m n) 75 11 33 (.int x) = some (enc c j w (va_up m 75 (upd (m 75) 33 x)) n) := pF_m rfl rfl (by decide)
theorem I75_37 : gI (enc c j w m n) 75 11 37 = some (m 75 37) := gI_m rfl rfl (by decide)
theorem P75_37 {x : Int32} : pF (enc c j w m n) 75 11 37 (.int x) = some (enc c j w (va_up m 75 (upd (m 75) 37 x)) n) := pF_m rfl rfl (by decide)
theorem I75_38 : gI (enc c j w m n) 75 11 38 = some (m 75 38) := gI_m rfl rfl (by decide)
theorem P75_38 {x : Int32} : pF (enc c j w m n) 75 11 38 (.int x) = some (enc c j w (va_up m 75 (upd (m 75) 38 x)) n) := pF_m rfl rfl (by decide)
theorem I75_39 : gI (enc c j w m n) 75 11 39 = some (m 75 39) := gI_m rfl rfl (by decide)
theorem P75_39 {x : Int32} : pF (enc c j w m n) 75 11 39 (.int x) = some (enc c j w (va_up m 75 (upd (m 75) 39 x)) n) := pF_m rfl rfl (by decide)
theorem I75_40 : gI (enc c j w m n) 75 11 40 = some (m 75 40) := gI_m rfl rfl (by decide)
theorem P75_40 {x : Int32} : pF (enc c j w m n) 75 11 40 (.int x) = some (enc c j w (va_up m 75 (upd (m 75) 40 x)) n) := pF_m rfl rfl (by decide)
theorem I75_44 : gI (enc c j w m n) 75 11 44 = some (m 75 44) := gI_m rfl rfl (by decide)
theorem P75_44 {x : Int32} : pF (enc c j w m n) 75 11 44 (.int x) = some (enc c j w (va_up m 75 (upd (m 75) 44 x)) n) := pF_m rfl rfl (by decide)
theorem J75_41 : gJ (enc c j w m n) 75 11 41 = some (n 75 41) := gJ_m rfl rfl (by decide)
theorem Q75_41 {x : Int64} : pF (enc c j w m n) 75 11 41 (.long x) = some (enc c j w m (va_up n 75 (vp_updL (n 75) 41 x))) := pF_mj rfl rfl (by decide)
theorem J75_42 : gJ (enc c j w m n) 75 11 42 = some (n 75 42) := gJ_m rfl rfl (by decide)
theorem Q75_42 {x : Int64} : pF (enc c j w m n) 75 11 42 (.long x) = some (enc c j w m (va_up n 75 (vp_updL (n 75) 42 x))) := pF_mj rfl rfl (by decide)
theorem J75_43 : gJ (enc c j w m n) 75 11 43 = some (n 75 43) := gJ_m rfl rfl (by decide)
theorem Q75_43 {x : Int64} : pF (enc c j w m n) 75 11 43 (.long x) = some (enc c j w m (va_up n 75 (vp_updL (n 75) 43 x))) := pF_mj rfl rfl (by decide)
theorem C75 : isC (enc c j w m n) 75 11 = true := isC_enc rfl
theorem A_get {a len i : Nat} (hs : sk a = .inl (1, len)) (ha : 75 ≤ a) (hl : len ≤ 900) (hi : i < len) : aI (enc c j w m n) a (nI i) = some (m a i) := by
  rw [aI_m hs ha, N_tn (by omega), if_neg]
  intro hh
  rcases hh with hh | hh
  · rw [N_lt0 (by omega)] at hh; exact hh
  · omega
theorem A_set {a len i : Nat} {x : Int32} (hs : sk a = .inl (1, len)) (ha : 75 ≤ a) (hl : len ≤ 900) (hi : i < len) : sI (enc c j w m n) a (nI i) x = some (enc c j w (va_up m a (upd (m a) i x)) n) := by
  rw [sI_m hs ha, N_tn (by omega), if_neg]
  intro hh
  rcases hh with hh | hh
  · rw [N_lt0 (by omega)] at hh; exact hh
  · omega
theorem M76 {i : Nat} (h : i < 900) : aI (enc c j w m n) 76 (nI i) = some (m 76 i) := A_get (len := 900) rfl (by decide) (by decide) h
theorem S76 {i : Nat} {x : Int32} (h : i < 900) : sI (enc c j w m n) 76 (nI i) x = some (enc c j w (va_up m 76 (upd (m 76) i x)) n) := A_set (len := 900) rfl (by decide) (by decide) h
theorem M77 {i : Nat} (h : i < 8) : aI (enc c j w m n) 77 (nI i) = some (m 77 i) := A_get (len := 8) rfl (by decide) (by decide) h
theorem S77 {i : Nat} {x : Int32} (h : i < 8) : sI (enc c j w m n) 77 (nI i) x = some (enc c j w (va_up m 77 (upd (m 77) i x)) n) := A_set (len := 8) rfl (by decide) (by decide) h
theorem M78 {i : Nat} (h : i < 164) : aI (enc c j w m n) 78 (nI i) = some (m 78 i) := A_get (len := 164) rfl (by decide) (by decide) h
theorem S78 {i : Nat} {x : Int32} (h : i < 164) : sI (enc c j w m n) 78 (nI i) x = some (enc c j w (va_up m 78 (upd (m 78) i x)) n) := A_set (len := 164) rfl (by decide) (by decide) h
theorem M79 {i : Nat} (h : i < 164) : aI (enc c j w m n) 79 (nI i) = some (m 79 i) := A_get (len := 164) rfl (by decide) (by decide) h
theorem S79 {i : Nat} {x : Int32} (h : i < 164) : sI (enc c j w m n) 79 (nI i) x = some (enc c j w (va_up m 79 (upd (m 79) i x)) n) := A_set (len := 164) rfl (by decide) (by decide) h
theorem M80 {i : Nat} (h : i < 25) : aI (enc c j w m n) 80 (nI i) = some (m 80 i) := A_get (len := 25) rfl (by decide) (by decide) h
theorem S80 {i : Nat} {x : Int32} (h : i < 25) : sI (enc c j w m n) 80 (nI i) x = some (enc c j w (va_up m 80 (upd (m 80) i x)) n) := A_set (len := 25) rfl (by decide) (by decide) h
theorem M81 {i : Nat} (h : i < 25) : aI (enc c j w m n) 81 (nI i) = some (m 81 i) := A_get (len := 25) rfl (by decide) (by decide) h
theorem S81 {i : Nat} {x : Int32} (h : i < 25) : sI (enc c j w m n) 81 (nI i) x = some (enc c j w (va_up m 81 (upd (m 81) i x)) n) := A_set (len := 25) rfl (by decide) (by decide) h
theorem M82 {i : Nat} (h : i < 25) : aI (enc c j w m n) 82 (nI i) = some (m 82 i) := A_get (len := 25) rfl (by decide) (by decide) h
theorem S82 {i : Nat} {x : Int32} (h : i < 25) : sI (enc c j w m n) 82 (nI i) x = some (enc c j w (va_up m 82 (upd (m 82) i x)) n) := A_set (len := 25) rfl (by decide) (by decide) h
theorem M83 {i : Nat} (h : i < 400) : aI (enc c j w m n) 83 (nI i) = some (m 83 i) := A_get (len := 400) rfl (by decide) (by decide) h
theorem S83 {i : Nat} {x : Int32} (h : i < 400) : sI (enc c j w m n) 83 (nI i) x = some (enc c j w (va_up m 83 (upd (m 83) i x)) n) := A_set (len := 400) rfl (by decide) (by decide) h
theorem M84 {i : Nat} (h : i < 75) : aI (enc c j w m n) 84 (nI i) = some (m 84 i) := A_get (len := 75) rfl (by decide) (by decide) h
theorem S84 {i : Nat} {x : Int32} (h : i < 75) : sI (enc c j w m n) 84 (nI i) x = some (enc c j w (va_up m 84 (upd (m 84) i x)) n) := A_set (len := 75) rfl (by decide) (by decide) h
theorem M85 {i : Nat} (h : i < 25) : aI (enc c j w m n) 85 (nI i) = some (m 85 i) := A_get (len := 25) rfl (by decide) (by decide) h
theorem S85 {i : Nat} {x : Int32} (h : i < 25) : sI (enc c j w m n) 85 (nI i) x = some (enc c j w (va_up m 85 (upd (m 85) i x)) n) := A_set (len := 25) rfl (by decide) (by decide) h
theorem M86 {i : Nat} (h : i < 5) : aI (enc c j w m n) 86 (nI i) = some (m 86 i) := A_get (len := 5) rfl (by decide) (by decide) h
theorem S86 {i : Nat} {x : Int32} (h : i < 5) : sI (enc c j w m n) 86 (nI i) x = some (enc c j w (va_up m 86 (upd (m 86) i x)) n) := A_set (len := 5) rfl (by decide) (by decide) h
theorem M87 {i : Nat} (h : i < 12) : aI (enc c j w m n) 87 (nI i) = some (m 87 i) := A_get (len := 12) rfl (by decide) (by decide) h
theorem S87 {i : Nat} {x : Int32} (h : i < 12) : sI (enc c j w m n) 87 (nI i) x = some (enc c j w (va_up m 87 (upd (m 87) i x)) n) := A_set (len := 12) rfl (by decide) (by decide) h
theorem M88 {i : Nat} (h : i < 13) : aI (enc c j w m n) 88 (nI i) = some (m 88 i) := A_get (len := 13) rfl (by decide) (by decide) h
theorem S88 {i : Nat} {x : Int32} (h : i < 13) : sI (enc c j w m n) 88 (nI i) x = some (enc c j w (va_up m 88 (upd (m 88) i x)) n) := A_set (len := 13) rfl (by decide) (by decide) h
theorem M89 {i : Nat} (h : i < 13) : aI (enc c j w m n) 89 (nI i) = some (m 89 i) := A_get (len := 13) rfl (by decide) (by decide) h
theorem S89 {i : Nat} {x : Int32} (h : i < 13) : sI (enc c j w m n) 89 (nI i) x = some (enc c j w (va_up m 89 (upd (m 89) i x)) n) := A_set (len := 13) rfl (by decide) (by decide) h
theorem M90 {i : Nat} (h : i < 13) : aI (enc c j w m n) 90 (nI i) = some (m 90 i) := A_get (len := 13) rfl (by decide) (by decide) h
theorem S90 {i : Nat} {x : Int32} (h : i < 13) : sI (enc c j w m n) 90 (nI i) x = some (enc c j w (va_up m 90 (upd (m 90) i x)) n) := A_set (len := 13) rfl (by decide) (by decide) h
theorem M91 {i : Nat} (h : i < 13) : aI (enc c j w m n) 91 (nI i) = some (m 91 i) := A_get (len := 13) rfl (by decide) (by decide) h
theorem S91 {i : Nat} {x : Int32} (h : i < 13) : sI (enc c j w m n) 91 (nI i) x = some (enc c j w (va_up m 91 (upd (m 91) i x)) n) := A_set (len := 13) rfl (by decide) (by decide) h
theorem M92 {i : Nat} (h : i < 16) : aI (enc c j w m n) 92 (nI i) = some (m 92 i) := A_get (len := 16) rfl (by decide) (by decide) h
theorem S92 {i : Nat} {x : Int32} (h : i < 16) : sI (enc c j w m n) 92 (nI i) x = some (enc c j w (va_up m 92 (upd (m 92) i x)) n) := A_set (len := 16) rfl (by decide) (by decide) h
theorem M93 {i : Nat} (h : i < 12) : aI (enc c j w m n) 93 (nI i) = some (m 93 i) := A_get (len := 12) rfl (by decide) (by decide) h
theorem S93 {i : Nat} {x : Int32} (h : i < 12) : sI (enc c j w m n) 93 (nI i) x = some (enc c j w (va_up m 93 (upd (m 93) i x)) n) := A_set (len := 12) rfl (by decide) (by decide) h
theorem M94 {i : Nat} (h : i < 12) : aI (enc c j w m n) 94 (nI i) = some (m 94 i) := A_get (len := 12) rfl (by decide) (by decide) h
theorem S94 {i : Nat} {x : Int32} (h : i < 12) : sI (enc c j w m n) 94 (nI i) x = some (enc c j w (va_up m 94 (upd (m 94) i x)) n) := A_set (len := 12) rfl (by decide) (by decide) h
theorem pZ_0 {h : Hp} {a ci f : Nat} : pZ h a ci f 0 = pF h a ci f (.int 0) := by unfold pZ; rw [if_pos (Or.inl rfl)]
theorem pZ_1 {h : Hp} {a ci f : Nat} : pZ h a ci f 1 = pF h a ci f (.int 1) := by unfold pZ; rw [if_pos (Or.inr rfl)]
theorem IX (a k : Nat) : nI a + nI 2 * nI k = nI (a + 2 * k) := by rw [N_mul, N_add]
theorem IX1 (a k : Nat) : nI a + nI 2 * nI k + nI 1 = nI (a + 2 * k + 1) := by rw [N_mul, N_add, N_add]
theorem IX3 (a k : Nat) : nI a + nI 3 * nI k = nI (a + 3 * k) := by rw [N_mul, N_add]
theorem IX31 (a k b : Nat) : nI a + nI 3 * nI k + nI b = nI (a + 3 * k + b) := by rw [N_mul, N_add, N_add]
theorem m_hasBit {M k : Nat} (hM : M < 2147483648) (hk : k < 32) (h : Hp) : X11_hasBit (nI M) (nI k) h = some (if M.testBit k then 1 else 0, h) := by
  unfold X11_hasBit
  rw [N_bit hM hk]
  cases e : M.testBit k with
  | true => rw [if_pos (show (if true = true then (1 : Int32) else 0) = 1 by decide), rZ_1]; rfl
  | false => rw [if_neg (show ¬ (if false = true then (1 : Int32) else 0) = 1 by decide), rZ_0]; rfl
theorem m_copy {a o b p q la lb : Nat} (ha : sk a = .inl (1, la)) (hb : sk b = .inl (1, lb)) (h1 : 75 ≤ a) (h2 : 75 ≤ b) (hla : la ≤ 900) (hlb : lb ≤ 900) (hab : a ≠ b) (hq : o + q ≤ la) (hp : p + q ≤ lb) : ∃ m', X11_copy a (nI o) b (nI p) (nI q) (enc c j w m n) = some (enc c j w m' n) ∧ (∀ y, y ≠ b → m' y = m y) ∧ (∀ i, i < q → m' b (p + i) = m a (o + i)) ∧ (∀ i, (i < p ∨ p + q ≤ i) → m' b i = m b i) := by
  refine loop_up (z := fun _ _ _ _ _ _ _ => none) (s := X11_copy_L3_s) q (fun i f => ∀ m1 : Nat → Nat → Int32, (∀ y, y ≠ b → m1 y = m y) → (∀ i', i' < i → m1 b (p + i') = m a (o + i')) → (∀ i, (i < p ∨ p + q ≤ i) → m1 b i = m b i) → ∃ m', f a (nI o) b (nI p) (nI q) (nI i) (enc c j w m1 n) = some (enc c j w m' n) ∧ (∀ y, y ≠ b → m' y = m y) ∧ (∀ i, i < q → m' b (p + i) = m a (o + i)) ∧ (∀ i, (i < p ∨ p + q ≤ i) → m' b i = m b i)) ?_ ?_ 5000 0 (Nat.zero_le _) (by omega) m (fun _ _ => rfl) (fun i h => absurd h (Nat.not_lt_zero _)) (fun _ _ => rfl)
  · intro i f hi ih m1 f1 g1 o1
    unfold X11_copy_L3_s
    rw [if_neg (by rw [N_le (by omega) (by omega)]; omega), N_add, N_add, A_get ha h1 hla (by omega), ob_some, A_set hb h2 hlb (by omega), ob_some, show nI i + 1 = nI (i + 1) from N_add i 1]
    refine ih _ (fun y hy => by simp only [va_up, if_neg hy]; exact f1 y hy) (fun i' hi' => ?_) fun i' hi' => ?_
    · simp only [va_up, if_true, upd]
      by_cases e : i' = i
      · subst e; rw [if_pos rfl, f1 a hab]
      · rw [if_neg (by omega)]; exact g1 i' (by omega)
    · simp only [va_up, if_true, upd]; rw [if_neg (by omega)]; exact o1 i' hi'
  · intro f m1 f1 g1 o1
    refine ⟨m1, ?_, f1, g1, o1⟩
    unfold X11_copy_L3_s
    rw [if_pos (by rw [N_le (by omega) (by omega)]; omega)]
end
