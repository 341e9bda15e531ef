/-! the class reads a token -/
section
variable {c : Nat → Nat → Int32} {j : Nat → Nat → Int64} {w : Nat → Nat} {m : Nat → Nat → Int32} {n : Nat → Nat → Int64} {T : Nat → Nat} {s p : Nat}
theorem F32_r0 : gR (enc c j w m n) 32 5 0 = some 1 := gR_k rfl rfl
theorem F32_r1 : gR (enc c j w m n) 32 5 1 = some 33 := gR_k rfl rfl
theorem F32_r2 : gR (enc c j w m n) 32 5 2 = some 34 := gR_k rfl rfl
theorem F32_r3 : gR (enc c j w m n) 32 5 3 = some (w 2) := gR_w rfl rfl
theorem F32_4 : gI (enc c j w m n) 32 5 4 = some (c 32 4) := gI_c rfl rfl (by decide)
theorem F32_5 : gI (enc c j w m n) 32 5 5 = some (c 32 5) := gI_c rfl rfl (by decide)
theorem F32_6 : gI (enc c j w m n) 32 5 6 = some (c 32 6) := gI_c rfl rfl (by decide)
theorem F32_7 : gI (enc c j w m n) 32 5 7 = some (c 32 7) := gI_c rfl rfl (by decide)
theorem F32_9 : gI (enc c j w m n) 32 5 9 = some (c 32 9) := gI_c rfl rfl (by decide)
theorem F32_10 : gI (enc c j w m n) 32 5 10 = some (c 32 10) := gI_c rfl rfl (by decide)
theorem F32_11 : gI (enc c j w m n) 32 5 11 = some (c 32 11) := gI_c rfl rfl (by decide)
theorem F32_p4 {x : Int32} : pF (enc c j w m n) 32 5 4 (.int x) = some (enc (va_up c 32 (upd (c 32) 4 x)) j w m n) := pF_c rfl rfl (by decide)
theorem F32_p5 {x : Int32} : pF (enc c j w m n) 32 5 5 (.int x) = some (enc (va_up c 32 (upd (c 32) 5 x)) j w m n) := pF_c rfl rfl (by decide)
theorem F32_p6 {x : Int32} : pF (enc c j w m n) 32 5 6 (.int x) = some (enc (va_up c 32 (upd (c 32) 6 x)) j w m n) := pF_c rfl rfl (by decide)
theorem F32_p7 {x : Int32} : pF (enc c j w m n) 32 5 7 (.int x) = some (enc (va_up c 32 (upd (c 32) 7 x)) j w m n) := pF_c rfl rfl (by decide)
theorem F32_p9 {x : Int32} : pF (enc c j w m n) 32 5 9 (.int x) = some (enc (va_up c 32 (upd (c 32) 9 x)) j w m n) := pF_c rfl rfl (by decide)
theorem F32_p10 {x : Int32} : pF (enc c j w m n) 32 5 10 (.int x) = some (enc (va_up c 32 (upd (c 32) 10 x)) j w m n) := pF_c rfl rfl (by decide)
theorem F32_p11 {x : Int32} : pF (enc c j w m n) 32 5 11 (.int x) = some (enc (va_up c 32 (upd (c 32) 11 x)) j w m n) := pF_c rfl rfl (by decide)
theorem F32_p12 {x : Int32} : pF (enc c j w m n) 32 5 12 (.int x) = some (enc (va_up c 32 (upd (c 32) 12 x)) j w m n) := pF_c rfl rfl (by decide)
theorem F32_j8 : gJ (enc c j w m n) 32 5 8 = some (j 32 8) := gJ_c rfl rfl (by decide)
theorem F32_pj8 {x : Int64} : pF (enc c j w m n) 32 5 8 (.long x) = some (enc c (va_up j 32 (vp_updL (j 32) 8 x)) w m n) := pF_cj rfl rfl (by decide)
theorem F32_is : isC (enc c j w m n) 32 5 = true := isC_enc rfl
theorem cV32 {α β : Type} {o : Option (α × Hp)} {Q : α → Hp → Option β} : cV (enc c j w m n) 32 5 o Q = bd o Q := cV_eq F32_is
theorem cVv32 {β : Type} {o : Option Hp} {Q : Hp → Option β} : cVv (enc c j w m n) 32 5 o Q = o.bind Q := cVv_eq F32_is
/-- the tape as the class has it -/
def CT (c : Nat → Nat → Int32) (T : Nat → Nat) (s : Nat) : Prop := s ≤ 900 ∧ (∀ i, T i < 256) ∧ c 32 4 = nI s ∧ ∀ i, i < s → c 1 i &&& 255 = nI (T i)
theorem c_byte (h : CT c T s) {i : Nat} (hi : i < s) : X5_byteAt 32 (nI i) (enc c j w m n) = some (nI (T i), enc c j w m n) := by
  have := h.1
  unfold X5_byteAt
  rw [if_neg (by rw [N_lt0 (by omega)]; exact id), F32_r0, ob_some, aN_B (len := 900) rfl, ob_some, if_neg (by rw [N_le (by omega) (by omega)]; omega), ob_some, aB_c (len := 900) rfl (by decide), N_tn (by omega), if_neg (fun z => z.elim (fun q => by rw [N_lt0 (by omega)] at q; exact q) (fun q => by omega)), ob_some, h.2.2.2 i hi]
theorem c_sort {b : Nat} (hb : b < 256) (h : Hp) : X5_sortOf (nI b) h = some (nI (so b), h) := by
  have l : ∀ x y : Nat, x < 300 → y < 300 → ((nI x < nI y) ↔ x < y) := fun x y h1 h2 => N_lt (by omega) (by omega)
  unfold X5_sortOf X5_sortOf_B14 X5_sortOf_B28
  rw [show (97 : Int32) = nI 97 from rfl, show (122 : Int32) = nI 122 from rfl, show (48 : Int32) = nI 48 from rfl, show (57 : Int32) = nI 57 from rfl, show (59 : Int32) = nI 59 from rfl]
  simp only [l b 97 (by omega) (by omega), l 122 b (by omega) (by omega), l b 48 (by omega) (by omega), l 57 b (by omega) (by omega), N_inj (a := b) (b := 59) (by omega) (by omega)]
  unfold so
  by_cases a1 : 97 ≤ b ∧ b ≤ 122
  · rw [if_neg (show ¬ b < 97 by omega), if_neg (show ¬ 122 < b by omega), if_pos a1]; rfl
  · rw [if_neg a1]
    have A : (if b < 48 then (if b = 59 then some ((3 : Int32), h) else some (4, h)) else if 57 < b then (if b = 59 then some ((3 : Int32), h) else some (4, h)) else some (2, h)) = some (nI (if 48 ≤ b ∧ b ≤ 57 then 2 else if b = 59 then 3 else 4), h) := by
      by_cases a2 : 48 ≤ b ∧ b ≤ 57
      · rw [if_neg (show ¬ b < 48 by omega), if_neg (show ¬ 57 < b by omega), if_pos a2]; rfl
      · have B : (if b = 59 then some ((3 : Int32), h) else some (4, h)) = some (nI (if b = 59 then 3 else 4), h) := by
          by_cases a4 : b = 59
          · rw [if_pos a4, if_pos a4]; rfl
          · rw [if_neg a4, if_neg a4]; rfl
        rw [if_neg a2, B]
        by_cases a3 : b < 48
        · rw [if_pos a3]
        · rw [if_neg a3, if_pos (show 57 < b by omega)]
    rw [A]
    by_cases a5 : b < 97
    · rw [if_pos a5]
    · rw [if_neg a5, if_pos (show 122 < b by omega)]
/-- what a read token leaves -/
def CK (c : Nat → Nat → Int32) (c' : Nat → Nat → Int32) : Prop := (∀ y, y ≠ 32 → c' y = c y) ∧ ∀ f, f ≠ 5 → f ≠ 6 → f ≠ 7 → f ≠ 9 → c' 32 f = c 32 f
theorem CT.ck {c' : Nat → Nat → Int32} (h : CT c T s) (f : CK c c') : CT c' T s := ⟨h.1, h.2.1, by rw [f.2 4 (by omega) (by omega) (by omega) (by omega)]; exact h.2.2.1, fun i hi => by rw [f.1 1 (by omega)]; exact h.2.2.2 i hi⟩
theorem CK.tr {c c1 c2 : Nat → Nat → Int32} (a : CK c c1) (b : CK c1 c2) : CK c c2 := ⟨fun y h => by rw [b.1 y h, a.1 y h], fun f h1 h2 h3 h4 => by rw [b.2 f h1 h2 h3 h4, a.2 f h1 h2 h3 h4]⟩
theorem CK.rf (c : Nat → Nat → Int32) : CK c c := ⟨fun _ _ => rfl, fun _ _ _ _ _ => rfl⟩
theorem CK.up {c : Nat → Nat → Int32} {f : Nat} (x : Int32) (h : f = 5 ∨ f = 6 ∨ f = 7 ∨ f = 9) : CK c (va_up c 32 (upd (c 32) f x)) := ⟨fun y hy => vup_ne _ _ hy, fun g h1 h2 h3 h4 => by rw [vup_at, upd_ne (by omega)]⟩
theorem u32 {c : Nat → Nat → Int32} {f : Nat} {x : Int32} : va_up c 32 (upd (c 32) f x) 32 f = x := by rw [vup_at, upd_at]
theorem v32 {c : Nat → Nat → Int32} {f g : Nat} {x : Int32} (h : g ≠ f) : va_up c 32 (upd (c 32) f x) 32 g = c 32 g := by rw [vup_at, upd_ne h]
theorem c_skip (h : CT c T s) (hp : p ≤ s) (e : c 32 5 = nI p) : ∃ c', X5_readToken 32 (enc c j w m n) = X5_readToken_B36 32 (enc c' j w m n) ∧ CK c c' ∧ c' 32 5 = nI (stp T s p) := by
  have := h.1
  obtain ⟨a1, a2, a3, a4⟩ := stp_ok (T := T) hp
  unfold X5_readToken
  rw [F32_5, ob_some, e]
  refine loop_up (z := fun _ _ _ => none) (s := X5_readToken_L5_s) (stp T s p) (fun i f => p ≤ i → ∀ c1, CK c c1 → c1 32 5 = nI i → ∃ c', f 32 (nI i) (enc c1 j w m n) = X5_readToken_B36 32 (enc c' j w m n) ∧ CK c c' ∧ c' 32 5 = nI (stp T s p)) ?_ ?_ 5000 p a1 (by omega) (Nat.le_refl _) c (CK.rf c) e
  · intro i f hi ih hpi c1 k1 e1
    obtain ⟨b1, b2⟩ := a3 i hpi hi
    have h1 := h.ck k1
    unfold X5_readToken_L5_s
    rw [F32_4, ob_some, h1.2.2.1, if_neg (by rw [N_le (by omega) (by omega)]; omega), cV32, c_byte h1 b1, bd_eq, b2, if_pos (show nI 32 = 32 from rfl), F32_p5, ob_some, show nI i + 1 = nI (i + 1) from N_add i 1]
    exact ih (by omega) _ (k1.tr (CK.up _ (Or.inl rfl))) u32
  · intro f hpi c1 k1 e1
    have h1 := h.ck k1
    refine ⟨c1, ?_, k1, e1⟩
    unfold X5_readToken_L5_s
    rw [F32_4, ob_some, h1.2.2.1]
    by_cases q : s ≤ stp T s p
    · rw [if_pos (by rw [N_le (by omega) (by omega)]; exact q)]
    · have hb := h1.2.1 (stp T s p)
      rw [if_neg (by rw [N_le (by omega) (by omega)]; exact q), cV32, c_byte h1 (by omega), bd_eq, if_neg (by rw [show (32 : Int32) = nI 32 from rfl, N_inj (by omega) (by omega)]; exact fun z => a4 ⟨by omega, z⟩)]
theorem c_tail (hp : p ≤ s) (hs : s ≤ 900) (e5 : c 32 5 = nI (nxq T s p)) (e6 : c 32 6 = nI (so1 T s p)) (e7 : c 32 7 = nI (stp T s p)) : ∃ c', X5_readToken_B197 32 (enc c j w m n) = some (enc c' j w m n) ∧ CK c c' ∧ c' 32 5 = c 32 5 ∧ c' 32 7 = c 32 7 ∧ c' 32 9 = c 32 9 ∧ c' 32 6 = nI (srt T s p) := by
  obtain ⟨n1, n2, n3, n4, n5, n6, n7⟩ := nxq_ok (T := T) hp
  have key : ∀ lim, lim < 9 → ∃ c', X5_readToken_B223 32 (nI lim) (enc c j w m n) = some (enc c' j w m n) ∧ CK c c' ∧ c' 32 5 = c 32 5 ∧ c' 32 7 = c 32 7 ∧ c' 32 9 = c 32 9 ∧ c' 32 6 = if nxq T s p - stp T s p ≤ lim then c 32 6 else nI 4 := by
    intro lim hl
    unfold X5_readToken_B223
    rw [F32_5, ob_some, F32_7, ob_some, e5, e7, N_sub n1]
    by_cases q : nxq T s p - stp T s p ≤ lim
    · rw [if_pos (by rw [N_le (by omega) (by omega)]; exact q)]
      exact ⟨c, rfl, CK.rf c, e5, e7, rfl, by rw [if_pos q]⟩
    · rw [if_neg (by rw [N_le (by omega) (by omega)]; exact q), F32_p6, ob_some]
      exact ⟨_, rfl, CK.up _ (Or.inr (Or.inl rfl)), by rw [v32 (by decide), e5], by rw [v32 (by decide), e7], v32 (by decide), by rw [u32, if_neg q]; rfl⟩
  unfold X5_readToken_B197
  rw [F32_6, ob_some, e6]
  by_cases q1 : so1 T s p = 1
  · rw [if_pos (by rw [q1]; rfl)]
    obtain ⟨c', r1, r2, r3, r4, r5, r6⟩ := key 8 (by omega)
    refine ⟨c', r1, r2, r3, r4, r5, ?_⟩
    rw [r6]; unfold srt; rw [if_pos q1, e6, q1]; split <;> rfl
  · rw [if_neg (by rw [show (1 : Int32) = nI 1 from rfl, N_inj (by omega) (by omega)]; exact q1), ob_some]
    by_cases q2 : so1 T s p = 2
    · rw [if_pos (by rw [q2]; rfl)]
      obtain ⟨c', r1, r2, r3, r4, r5, r6⟩ := key 3 (by omega)
      refine ⟨c', r1, r2, r3, r4, r5, ?_⟩
      rw [r6]; unfold srt; rw [if_neg q1, if_pos q2, e6, q2]; split <;> rfl
    · rw [if_neg (by rw [show (2 : Int32) = nI 2 from rfl, N_inj (by omega) (by omega)]; exact q2)]
      obtain ⟨c', r1, r2, r3, r4, r5, r6⟩ := key 1 (by omega)
      refine ⟨c', r1, r2, r3, r4, r5, ?_⟩
      have : nxq T s p - stp T s p ≤ 1 := by
        unfold nxq
        by_cases q0 : so1 T s p = 0
        · rw [if_pos q0]; omega
        · rw [if_neg q0, if_neg (by omega)]; omega
      rw [r6, if_pos this, e6]; unfold srt; rw [if_neg q1, if_neg q2]
theorem c_body (h : CT c T s) (hp : p ≤ s) (e5 : c 32 5 = nI (stp T s p)) (e6 : c 32 6 = nI (so1 T s p)) (e7 : c 32 7 = nI (stp T s p)) (e9 : c 32 9 = 0) (e8 : j 32 8 = 0) : ∃ c' j', X5_readToken_L111 5000 32 (nI (flg (so1 T s p))) (nI (stp T s p)) (enc c j w m n) = some (enc c' j' w m n) ∧ CK c c' ∧ (∀ y, y ≠ 32 → j' y = j y) ∧ c' 32 5 = nI (nxq T s p) ∧ c' 32 6 = nI (srt T s p) ∧ c' 32 7 = nI (stp T s p) ∧ c' 32 9 = wh T (stp T s p) (nxq T s p - stp T s p) ∧ j' 32 8 = wv T (stp T s p) (nxq T s p - stp T s p) := by
  have hs := h.1
  obtain ⟨n1, n2, n3, n4, n5, n6, n7⟩ := nxq_ok (T := T) hp
  have hfl : flg (so1 T s p) = 0 ∨ flg (so1 T s p) = 1 := by unfold flg; split <;> omega
  refine loop_up (z := fun _ _ _ _ => none) (s := X5_readToken_L111_s) (nxq T s p) (fun i f => stp T s p ≤ i → ∀ c1 j1, CK c c1 → (∀ y, y ≠ 32 → j1 y = j y) → c1 32 5 = nI i → c1 32 6 = nI (so1 T s p) → c1 32 7 = nI (stp T s p) → c1 32 9 = wh T (stp T s p) (i - stp T s p) → j1 32 8 = wv T (stp T s p) (i - stp T s p) → ∃ c' j', f 32 (nI (flg (so1 T s p))) (nI i) (enc c1 j1 w m n) = some (enc c' j' w m n) ∧ CK c c' ∧ (∀ y, y ≠ 32 → j' y = j y) ∧ c' 32 5 = nI (nxq T s p) ∧ c' 32 6 = nI (srt T s p) ∧ c' 32 7 = nI (stp T s p) ∧ c' 32 9 = wh T (stp T s p) (nxq T s p - stp T s p) ∧ j' 32 8 = wv T (stp T s p) (nxq T s p - stp T s p)) ?_ ?_ 5000 (stp T s p) n1 (by omega) (Nat.le_refl _) c j (CK.rf c) (fun _ _ => rfl) e5 e6 e7 (by rw [Nat.sub_self]; exact e9) (by rw [Nat.sub_self]; exact e8)
  · intro i f hi ih hpi c1 j1 k1 kj d5 d6 d7 d9 d8
    obtain ⟨b1, b2⟩ := n3 i hpi hi
    have h1 := h.ck k1
    have B : ∃ c' j', X5_readToken_B146 f 32 (nI (flg (so1 T s p))) (nI i) (enc c1 j1 w m n) = some (enc c' j' w m n) ∧ CK c c' ∧ (∀ y, y ≠ 32 → j' y = j y) ∧ c' 32 5 = nI (nxq T s p) ∧ c' 32 6 = nI (srt T s p) ∧ c' 32 7 = nI (stp T s p) ∧ c' 32 9 = wh T (stp T s p) (nxq T s p - stp T s p) ∧ j' 32 8 = wv T (stp T s p) (nxq T s p - stp T s p) := by
      unfold X5_readToken_B146
      rw [F32_j8, ob_some, cV32, c_byte h1 b1, bd_eq, F32_pj8, ob_some, F32_9, ob_some, cV32, c_byte h1 b1, bd_eq, F32_p9, ob_some, F32_p5, ob_some, show nI i + 1 = nI (i + 1) from N_add i 1]
      have es : i + 1 - stp T s p = (i - stp T s p) + 1 := by omega
      have ei : stp T s p + (i - stp T s p) = i := by omega
      refine ih (by omega) _ _ ((k1.tr (CK.up _ (Or.inr (Or.inr (Or.inr rfl))))).tr (CK.up _ (Or.inl rfl))) (fun y hy => by rw [vup_ne _ _ hy]; exact kj y hy) u32 (by rw [v32 (by decide), v32 (by decide)]; exact d6) (by rw [v32 (by decide), v32 (by decide)]; exact d7) ?_ ?_
      · rw [v32 (by decide), u32, es, wh, ei, d9]
      · rw [vup_at, updL_at, es, wv, ei, d8]
    unfold X5_readToken_L111_s
    rw [F32_4, ob_some, h1.2.2.1, if_neg (by rw [N_le (by omega) (by omega)]; omega), F32_7, ob_some, d7]
    by_cases q : i = stp T s p
    · rw [if_pos (by rw [q])]; exact B
    · obtain ⟨g1, g2⟩ := b2.resolve_left q
      rw [if_neg (by rw [N_inj (by omega) (by omega)]; exact q), if_neg (by rw [g1]; decide), cV32, c_byte h1 b1, bd_eq, c_sort (h1.2.1 i), bd_eq, F32_6, ob_some, d6, g2, if_pos rfl]
      exact B
  · intro f hpi c1 j1 k1 kj d5 d6 d7 d9 d8
    have h1 := h.ck k1
    obtain ⟨c', r1, r2, r3, r4, r5, r6⟩ := c_tail (c := c1) (j := j1) (w := w) (m := m) (n := n) hp hs d5 d6 d7
    refine ⟨c', j1, ?_, k1.tr r2, kj, by rw [r3]; exact d5, r6, by rw [r4]; exact d7, by rw [r5]; exact d9, d8⟩
    rw [← r1]
    unfold X5_readToken_L111_s
    rw [F32_4, ob_some, h1.2.2.1]
    by_cases q : s ≤ nxq T s p
    · rw [if_pos (by rw [N_le (by omega) (by omega)]; exact q)]
    · obtain ⟨g1, g2⟩ := n4.resolve_left q
      rw [if_neg (by rw [N_le (by omega) (by omega)]; exact q), F32_7, ob_some, d7, if_neg (by rw [N_inj (by omega) (by omega)]; exact g1)]
      by_cases z : flg (so1 T s p) = 0
      · rw [if_pos (by rw [z]; rfl)]
      · have hso := so_r (T (nxq T s p))
        rw [if_neg (by rw [show (0 : Int32) = nI 0 from rfl, N_inj (by omega) (by omega)]; exact z), cV32, c_byte h1 (by omega), bd_eq, c_sort (h1.2.1 _), bd_eq, F32_6, ob_some, d6, if_neg (by rw [N_inj (by omega) (by omega)]; exact g2.resolve_left z)]
/-- THE CLASS READS A TOKEN -/
theorem c_tok (h : CT c T s) (hp : p ≤ s) (e : c 32 5 = nI p) : ∃ c' j', X5_readToken 32 (enc c j w m n) = some (enc c' j' w m n) ∧ CK c c' ∧ (∀ y, y ≠ 32 → j' y = j y) ∧ c' 32 5 = nI (nxq T s p) ∧ c' 32 6 = nI (srt T s p) ∧ c' 32 7 = nI (stp T s p) ∧ c' 32 9 = wh T (stp T s p) (nxq T s p - stp T s p) ∧ j' 32 8 = wv T (stp T s p) (nxq T s p - stp T s p) := by
  have hs := h.1
  obtain ⟨c1, e1, k1, d5⟩ := c_skip (j := j) (w := w) (m := m) (n := n) h hp e
  obtain ⟨a1, a2, a3, a4⟩ := stp_ok (T := T) hp
  obtain ⟨n1, n2, n3, n4, n5, n6, n7⟩ := nxq_ok (T := T) hp
  have h1 := h.ck k1
  rw [e1]
  have key : ∀ c2, CK c c2 → c2 32 5 = nI (stp T s p) → c2 32 7 = nI (stp T s p) → ∃ c' j', X5_readToken_B71 32 32 (nI (so1 T s p)) (enc c2 j w m n) = some (enc c' j' w m n) ∧ CK c c' ∧ (∀ y, y ≠ 32 → j' y = j y) ∧ c' 32 5 = nI (nxq T s p) ∧ c' 32 6 = nI (srt T s p) ∧ c' 32 7 = nI (stp T s p) ∧ c' 32 9 = wh T (stp T s p) (nxq T s p - stp T s p) ∧ j' 32 8 = wv T (stp T s p) (nxq T s p - stp T s p) := by
    intro c2 k2 f5 f7
    unfold X5_readToken_B71 X5_readToken_B100
    rw [F32_p6, ob_some, F32_pj8, ob_some, F32_p9, ob_some, F32_6, ob_some, v32 (by decide), u32]
    have k3 : CK c (va_up (va_up c2 32 (upd (c2 32) 6 (nI (so1 T s p)))) 32 (upd (va_up c2 32 (upd (c2 32) 6 (nI (so1 T s p))) 32) 9 0)) := (k2.tr (CK.up _ (Or.inr (Or.inl rfl)))).tr (CK.up _ (Or.inr (Or.inr (Or.inr rfl))))
    have G : ∃ c' j', X5_readToken_B105 32 (nI (flg (so1 T s p))) (enc (va_up (va_up c2 32 (upd (c2 32) 6 (nI (so1 T s p)))) 32 (upd (va_up c2 32 (upd (c2 32) 6 (nI (so1 T s p))) 32) 9 0)) (va_up j 32 (vp_updL (j 32) 8 0)) w m n) = some (enc c' j' w m n) ∧ CK c c' ∧ (∀ y, y ≠ 32 → j' y = j y) ∧ c' 32 5 = nI (nxq T s p) ∧ c' 32 6 = nI (srt T s p) ∧ c' 32 7 = nI (stp T s p) ∧ c' 32 9 = wh T (stp T s p) (nxq T s p - stp T s p) ∧ j' 32 8 = wv T (stp T s p) (nxq T s p - stp T s p) := by
      obtain ⟨c', j', r1, r2, r3, r4⟩ := c_body (c := va_up (va_up c2 32 (upd (c2 32) 6 (nI (so1 T s p)))) 32 (upd (va_up c2 32 (upd (c2 32) 6 (nI (so1 T s p))) 32) 9 0)) (j := va_up j 32 (vp_updL (j 32) 8 0)) (w := w) (m := m) (n := n) (h.ck k3) hp (by rw [v32 (by decide), v32 (by decide)]; exact f5) (by rw [v32 (by decide), u32]) (by rw [v32 (by decide), v32 (by decide)]; exact f7) u32 (by rw [vup_at, updL_at])
      refine ⟨c', j', ?_, k3.tr r2, fun y hy => by rw [r3 y hy, vup_ne _ _ hy], r4⟩
      unfold X5_readToken_B105
      rw [F32_7, ob_some, v32 (by decide), v32 (by decide), f7, r1]
    by_cases q1 : so1 T s p = 1
    · rw [if_pos (by rw [q1]; rfl)]
      rw [show flg (so1 T s p) = 1 by unfold flg; rw [if_pos (Or.inl q1)]] at G
      exact G
    · rw [if_neg (by rw [show (1 : Int32) = nI 1 from rfl, N_inj (by omega) (by omega)]; exact q1), ob_some]
      by_cases q2 : so1 T s p = 2
      · rw [if_pos (by rw [q2]; rfl)]
        rw [show flg (so1 T s p) = 1 by unfold flg; rw [if_pos (Or.inr q2)]] at G
        exact G
      · rw [if_neg (by rw [show (2 : Int32) = nI 2 from rfl, N_inj (by omega) (by omega)]; exact q2)]
        rw [show flg (so1 T s p) = 0 by unfold flg; rw [if_neg (by omega)]] at G
        exact G
  unfold X5_readToken_B36
  rw [F32_5, ob_some, d5, F32_p7, ob_some, F32_7, ob_some, F32_4, ob_some, u32, v32 (by decide), h1.2.2.1]
  have k2 : CK c (va_up c1 32 (upd (c1 32) 7 (nI (stp T s p)))) := k1.tr (CK.up _ (Or.inr (Or.inr (Or.inl rfl))))
  have h2 := h.ck k2
  by_cases q : s ≤ stp T s p
  · rw [if_pos (by rw [N_le (by omega) (by omega)]; exact q)]
    have := key _ k2 (by rw [v32 (by decide)]; exact d5) u32
    rw [show so1 T s p = 0 by unfold so1; rw [if_neg (by omega)]] at this
    exact this
  · rw [if_neg (by rw [N_le (by omega) (by omega)]; exact q), ob_some, cV32, c_byte h2 (by omega), bd_eq, c_sort (h2.2.1 _), bd_eq]
    have := key _ k2 (by rw [v32 (by decide)]; exact d5) u32
    rw [show so1 T s p = so (T (stp T s p)) by unfold so1; rw [if_pos (by omega)]] at this
    exact this
end
