/-! the class reads the lines -/
def kdx (T : Nat → Nat) (s p : Nat) : Nat := if isW T s 11 p then 0 else if isW T s 12 p then 1 else if isW T s 13 p then 2 else 3
def cox (T : Nat → Nat) (s p : Nat) : Nat := if isW T s 16 p then 0 else if isW T s 17 p then 1 else if isW T s 18 p then 2 else if isW T s 19 p then 3 else 4
def fKd (T : Nat → Nat) (s p : Nat) : Nat := if kdx T s p < 3 then 0 else 1
def fCo (T : Nat → Nat) (s p : Nat) : Nat := if cox T s p < 4 then 0 else 1
def fDu (V : Nat → Nat → Nat) (r N x : Nat) : Nat := if (∃ i, i < N ∧ V r i = x) then 3 else 0
def sqx (x y : Nat) : Nat := 1000 * (x + 300) + y + 300
def gBoy (kd e q l a : Nat) : Option Nat := if a = 0 then some kd else if a = 1 then some e else if a = 13 then some q else if a = 15 then some l else none
def gOff (e q l a : Nat) : Option Nat := if a = 2 then some e else if a = 14 then some q else if a = 16 then some l else none
def gWat (b o d sp a : Nat) : Option Nat := if a = 11 then some b else if a = 3 then some o else if a = 12 then some d else if a = 4 then some sp else none
def gNoo (x a : Nat) : Option Nat := if a = 5 then some x else none
def gSho (x y a : Nat) : Option Nat := if a = 6 then some (sqx x y) else if a = 17 then some x else if a = 18 then some y else none
def gUns (b e a : Nat) : Option Nat := if a = 7 then some b else if a = 8 then some e else none
def gFou (k x y a : Nat) : Option Nat := if a = 9 then some k else if a = 10 then some (sqx x y) else if a = 21 then some x else if a = 22 then some y else none
theorem gg {t : Nat} {g : Nat → Option Nat} (ht : t < 7) (h1 : ∀ a, 23 ≤ a → g a = none) (h2 : ∀ a, a < 23 → own t a = false → g a = none) : GG t g := fun a ha => by
  by_cases q : a < 23
  · exact h2 a q ha
  · exact h1 a (by omega)
theorem gg_Boy (kd e q l : Nat) : GG 0 (gBoy kd e q l) := fun a ha => by
  unfold own at ha; simp at ha; unfold gBoy; rw [if_neg (by omega), if_neg (by omega), if_neg (by omega), if_neg (by omega)]
theorem gg_Off (e q l : Nat) : GG 1 (gOff e q l) := fun a ha => by
  unfold own at ha; simp at ha; unfold gOff; rw [if_neg (by omega), if_neg (by omega), if_neg (by omega)]
theorem gg_Wat (b o d sp : Nat) : GG 2 (gWat b o d sp) := fun a ha => by
  unfold own at ha; simp at ha; unfold gWat; rw [if_neg (by omega), if_neg (by omega), if_neg (by omega), if_neg (by omega)]
theorem gg_Noo (x : Nat) : GG 3 (gNoo x) := fun a ha => by
  unfold own at ha; simp at ha; unfold gNoo; rw [if_neg (by omega)]
theorem gg_Sho (x y : Nat) : GG 4 (gSho x y) := fun a ha => by
  unfold own at ha; simp at ha; unfold gSho; rw [if_neg (by omega), if_neg (by omega), if_neg (by omega)]
theorem gg_Uns (b e : Nat) : GG 5 (gUns b e) := fun a ha => by
  unfold own at ha; simp at ha; unfold gUns; rw [if_neg (by omega), if_neg (by omega)]
theorem gg_Fou (k x y : Nat) : GG 6 (gFou k x y) := fun a ha => by
  unfold own at ha; simp at ha; unfold gFou; rw [if_neg (by omega), if_neg (by omega), if_neg (by omega), if_neg (by omega)]
def fix (T : Nat → Nat) (s : Nat) (V : Nat → Nat → Nat) (r p : Nat) : Nat := fdx (nmB T s V r p) (V 20 r)
def lnBoy (T : Nat → Nat) (s : Nat) (V : Nat → Nat → Nat) (p : Nat) : Out :=
  nd T s (fNew T s V p) p <| nd T s (fKd T s (nxq T s p)) (nxq T s p) <| nd T s (fWd T s 14 (nxq T s (nxq T s p))) (nxq T s (nxq T s p)) <| nd T s (fNm T s 0 20 (nxq T s (nxq T s (nxq T s p)))) (nxq T s (nxq T s (nxq T s p))) <|
  Out.ok (ad V 0 (gBoy (kdx T s (nxq T s p)) (whn T s (nxq T s (nxq T s (nxq T s p)))) (stp T s p) (nxq T s p - stp T s p))) (nxq T s (nxq T s (nxq T s (nxq T s p))))
def lnOff (T : Nat → Nat) (s : Nat) (V : Nat → Nat → Nat) (p : Nat) : Out :=
  nd T s (fNew T s V p) p <| nd T s (fWd T s 15 (nxq T s p)) (nxq T s p) <| nd T s (fNm T s 1 9 (nxq T s (nxq T s p))) (nxq T s (nxq T s p)) <|
  Out.ok (ad V 1 (gOff (whn T s (nxq T s (nxq T s p))) (stp T s p) (nxq T s p - stp T s p))) (nxq T s (nxq T s (nxq T s p)))
def lnWat (T : Nat → Nat) (s : Nat) (V : Nat → Nat → Nat) (p : Nat) : Out :=
  nd T s (fOld T s V 0 p) p <| nd T s (fOld T s V 1 (nxq T s p)) (nxq T s p) <| nd T s (fCo T s (nxq T s (nxq T s p))) (nxq T s (nxq T s p)) <| nd T s (fWd T s 20 (nxq T s (nxq T s (nxq T s p)))) (nxq T s (nxq T s (nxq T s p))) <| nd T s (fNm T s 0 9 (nxq T s (nxq T s (nxq T s (nxq T s p))))) (nxq T s (nxq T s (nxq T s (nxq T s p)))) <|
  Out.ok (ad V 2 (gWat (fix T s V 0 p) (fix T s V 1 (nxq T s p)) (cox T s (nxq T s (nxq T s p))) (whn T s (nxq T s (nxq T s (nxq T s (nxq T s p))))))) (nxq T s (nxq T s (nxq T s (nxq T s (nxq T s p)))))
def lnNoo (T : Nat → Nat) (s : Nat) (V : Nat → Nat → Nat) (p : Nat) : Out :=
  nd T s (fWd T s 21 p) p <| nd T s (fNm T s 1 12 (nxq T s p)) (nxq T s p) <| nd T s (fDu V 5 (V 20 3) (whn T s (nxq T s p))) (nxq T s p) <|
  Out.ok (ad V 3 (gNoo (whn T s (nxq T s p)))) (nxq T s (nxq T s p))
def lnSho (T : Nat → Nat) (s : Nat) (V : Nat → Nat → Nat) (p : Nat) : Out :=
  nd T s (fNm T s 0 199 p) p <| nd T s (fNm T s 0 199 (nxq T s p)) (nxq T s p) <| nd T s (fDu V 6 (V 20 4) (sqx (whn T s p) (whn T s (nxq T s p)))) (nxq T s p) <|
  Out.ok (ad V 4 (gSho (whn T s p) (whn T s (nxq T s p)))) (nxq T s (nxq T s p))
def lnUns (T : Nat → Nat) (s : Nat) (V : Nat → Nat → Nat) (p : Nat) : Out :=
  nd T s (fOld T s V 0 p) p <| nd T s (fDu V 7 (V 20 5) (fix T s V 0 p)) p <| nd T s (fNm T s 0 20 (nxq T s p)) (nxq T s p) <|
  Out.ok (ad V 5 (gUns (fix T s V 0 p) (whn T s (nxq T s p)))) (nxq T s (nxq T s p))
def lnFou (T : Nat → Nat) (s : Nat) (V : Nat → Nat → Nat) (p : Nat) : Out :=
  nd T s (fNm T s 0 12 p) p <| nd T s (fDu V 9 (V 20 6) (whn T s p)) p <| nd T s (fWd T s 21 (nxq T s p)) (nxq T s p) <| nd T s (fNm T s 0 199 (nxq T s (nxq T s p))) (nxq T s (nxq T s p)) <| nd T s (fNm T s 0 199 (nxq T s (nxq T s (nxq T s p)))) (nxq T s (nxq T s (nxq T s p))) <|
  Out.ok (ad V 6 (gFou (whn T s p) (whn T s (nxq T s (nxq T s p))) (whn T s (nxq T s (nxq T s (nxq T s p)))))) (nxq T s (nxq T s (nxq T s (nxq T s p))))
def sv (V : Nat → Nat → Nat) (k x r i : Nat) : Nat := if r = 20 ∧ i = k then x else V r i
def vyg (V : Nat → Nat → Nat) (a b d e : Nat) : Nat → Nat → Nat := sv (sv (sv (sv (sv V 11 1) 7 a) 8 b) 9 d) 10 e
def lnVoy (T : Nat → Nat) (s : Nat) (V : Nat → Nat → Nat) (p : Nat) : Out :=
  nd T s (fWd T s 1 p) p <| nd T s (fNm T s 0 199 (nxq T s p)) (nxq T s p) <| nd T s (fNm T s 0 199 (nxq T s (nxq T s p))) (nxq T s (nxq T s p)) <| nd T s (fWd T s 2 (nxq T s (nxq T s (nxq T s p)))) (nxq T s (nxq T s (nxq T s p))) <| nd T s (fNm T s 0 100 (nxq T s (nxq T s (nxq T s (nxq T s p))))) (nxq T s (nxq T s (nxq T s (nxq T s p)))) <| nd T s (fWd T s 3 (nxq T s (nxq T s (nxq T s (nxq T s (nxq T s p)))))) (nxq T s (nxq T s (nxq T s (nxq T s (nxq T s p))))) <| nd T s (fNm T s 0 100 (nxq T s (nxq T s (nxq T s (nxq T s (nxq T s (nxq T s p))))))) (nxq T s (nxq T s (nxq T s (nxq T s (nxq T s (nxq T s p)))))) <|
  Out.ok (vyg V (whn T s (nxq T s p)) (whn T s (nxq T s (nxq T s p))) (whn T s (nxq T s (nxq T s (nxq T s (nxq T s p))))) (whn T s (nxq T s (nxq T s (nxq T s (nxq T s (nxq T s (nxq T s p)))))))) (nxq T s (nxq T s (nxq T s (nxq T s (nxq T s (nxq T s (nxq T s p)))))))
/-- the class's answer at a line -/
def CO (c0 : Nat → Nat → Int32) (v : Nat) (T : Nat → Nat) (s : Nat) (F : Hp → Option (Int32 × Hp)) (c : Nat → Nat → Int32) (j : Nat → Nat → Int64) (w : Nat → Nat) (m : Nat → Nat → Int32) (n : Nat → Nat → Int64) (o : Out) : Prop := match o with
  | Sum.inl (f, q) => ∃ c' j', F (enc c j w m n) = some (0, enc c' j' w m n) ∧ BC c0 c' v f q
  | Sum.inr (V, p) => ∃ c' j', F (enc c j w m n) = some (1, enc c' j' w m n) ∧ JC c0 c' j' v T s V p
section
variable {c0 c : Nat → Nat → Int32} {j : Nat → Nat → Int64} {w : Nat → Nat} {m : Nat → Nat → Int32} {n : Nat → Nat → Int64} {T : Nat → Nat} {s p v : Nat} {V : Nat → Nat → Nat} {F : Hp → Option (Int32 × Hp)}
theorem co_no {f q : Nat} (h : ∃ c' j', F (enc c j w m n) = some (0, enc c' j' w m n) ∧ BC c0 c' v f q) : CO c0 v T s F c j w m n (.bad f q) := h
theorem co_ok (h : ∃ c' j', F (enc c j w m n) = some (1, enc c' j' w m n) ∧ JC c0 c' j' v T s V p) : CO c0 v T s F c j w m n (.ok V p) := h
theorem r_cnt (hv : isV v) (h : RV2 c v V) {t : Nat} (ht : t < 7) : gI (enc c j w m n) (v + 1 + 2 * t) 8 3 = some (nI (V 20 t)) := by rw [T_count (V_T hv ht), h.1 t ht]
theorem r_cB (hv : isV v) (h : RV2 c v V) : gI (enc c j w m n) (v + 1) 8 3 = some (nI (V 20 0)) := r_cnt hv h (t := 0) (by decide)
theorem r_cO (hv : isV v) (h : RV2 c v V) : gI (enc c j w m n) (v + 3) 8 3 = some (nI (V 20 1)) := r_cnt hv h (t := 1) (by decide)
theorem r_cW (hv : isV v) (h : RV2 c v V) : gI (enc c j w m n) (v + 5) 8 3 = some (nI (V 20 2)) := r_cnt hv h (t := 2) (by decide)
theorem n_neg1 {x : Nat} (h : x < 1000) : ¬ nI x = -1 := by rw [nI_iI, show (-1 : Int32) = iI (-1) from rfl, Z_inj (by omega) (by omega) (by omega) (by omega)]; omega
theorem GP.cc (g : GP T V) : V 20 0 ≤ 5 ∧ V 20 1 ≤ 4 := ⟨g.1 0 (by decide), g.1 1 (by decide)⟩
theorem c_new1 (hv : isV v) (hw : w 2 = v) (g : GP T V) (h : JC c0 c j v T s V p) (z : fNew T s V p = 0) : ∃ c' j', X5_nextNewName 32 (enc c j w m n) = some (1, enc c' j' w m n) ∧ JC c0 c' j' v T s V (nxq T s p) ∧ j' 32 8 = wv T (stp T s p) (nxq T s p - stp T s p) := by
  obtain ⟨c', j', e, h', d6, d7, d9, d8⟩ := c_rd (w := w) (m := m) (n := n) hv h
  have gn := g.2.2.2.2.1
  unfold fNew at z
  split at z
  · rename_i hz
    split at z
    · cases z
    · rename_i hk
      obtain ⟨k0, k1⟩ := not_or.mp hk
      refine ⟨c', j', ?_, h', d8⟩
      have N0 := c_num (c := c') (w := w) (m := m) (n := n) h.2.2.1 gn g.cc h'.2.2.2.2.2.2.2 hz.1 d8 (r := 0) (by decide)
      have N1 := c_num (c := c') (w := w) (m := m) (n := n) h.2.2.1 gn g.cc h'.2.2.2.2.2.2.2 hz.1 d8 (r := 1) (by decide)
      rw [if_neg k0] at N0
      rw [if_neg k1] at N1
      unfold X5_nextNewName X5_nextNewName_B74 X5_nextNewName_B87
      rw [cVv32, e, ob_some, F32_6, ob_some, d6, hz.1, if_pos (show nI 1 = 1 from rfl), cV32, c_begins h.2.2.1 d6 d8, hz.2, bd_eq, if_pos (by decide), F32_r1, ob_some, F32_r3, ob_some, hw, V_0 hv, ob_some, r_cB hv h'.2.2.2.2.2.1, ob_some, cV32, N0, bd_eq, if_pos rfl, F32_r2, ob_some, F32_r3, ob_some, hw, V_1 hv, ob_some, r_cO hv h'.2.2.2.2.2.1, ob_some, cV32, N1, bd_eq, if_pos rfl, if_pos rfl, rZ_1]
  · cases z
theorem c_new0 (hv : isV v) (hw : w 2 = v) (g : GP T V) (h : JC c0 c j v T s V p) (z : fNew T s V p ≠ 0) : ∃ c' j', X5_nextNewName 32 (enc c j w m n) = some (0, enc c' j' w m n) ∧ BC c0 c' v (fNew T s V p) (stp T s p) := by
  obtain ⟨c', j', e, h', d6, d7, d9, d8⟩ := c_rd (w := w) (m := m) (n := n) hv h
  have gn := g.2.2.2.2.1
  have h4 := srt_le (T := T) h.2.2.1
  obtain ⟨c2, e2, b2⟩ := c_fail (w := w) (m := m) (n := n) (f := 1) hv h' d7
  by_cases q1 : srt T s p = 1
  · by_cases q2 : bgs T s p = false
    · have N0 := c_num (c := c') (w := w) (m := m) (n := n) h.2.2.1 gn g.cc h'.2.2.2.2.2.2.2 q1 d8 (r := 0) (by decide)
      have N1 := c_num (c := c') (w := w) (m := m) (n := n) h.2.2.1 gn g.cc h'.2.2.2.2.2.2.2 q1 d8 (r := 1) (by decide)
      obtain ⟨c3, e3, b3⟩ := c_fail (w := w) (m := m) (n := n) (f := 3) hv h' d7
      have hk : fdx (nmB T s V 0 p) (V 20 0) < V 20 0 ∨ fdx (nmB T s V 1 p) (V 20 1) < V 20 1 := by
        by_cases y : fdx (nmB T s V 0 p) (V 20 0) < V 20 0 ∨ fdx (nmB T s V 1 p) (V 20 1) < V 20 1
        · exact y
        · exact absurd (by unfold fNew; rw [if_pos ⟨q1, q2⟩, if_neg y]) z
      have hf : fNew T s V p = 3 := by unfold fNew; rw [if_pos ⟨q1, q2⟩, if_pos hk]
      have cc := g.cc
      refine ⟨c3, j', ?_, by rw [hf]; exact b3⟩
      have B : X5_nextNewName_B69 32 (enc c' j' w m n) = some (0, enc c3 j' w m n) := by
        unfold X5_nextNewName_B69 X5_nextNewName_B74
        rw [if_neg (by decide), cV32, show (3 : Int32) = nI 3 from rfl, e3, bd_eq, if_pos rfl, rZ_0]
      unfold X5_nextNewName
      rw [cVv32, e, ob_some, F32_6, ob_some, d6, q1, if_pos (show nI 1 = 1 from rfl), cV32, c_begins h.2.2.1 d6 d8, q2, bd_eq, if_pos (by decide), F32_r1, ob_some, F32_r3, ob_some, hw, V_0 hv, ob_some, r_cB hv h'.2.2.2.2.2.1, ob_some, cV32, N0, bd_eq]
      by_cases y : fdx (nmB T s V 0 p) (V 20 0) < V 20 0
      · rw [if_pos y, if_neg (n_neg1 (by omega)), B]
      · rw [if_neg y, if_pos rfl, F32_r2, ob_some, F32_r3, ob_some, hw, V_1 hv, ob_some, r_cO hv h'.2.2.2.2.2.1, ob_some, cV32, N1, bd_eq, if_pos (hk.resolve_left y), if_neg (n_neg1 (by omega)), B]
    · have hf : fNew T s V p = 1 := by unfold fNew; rw [if_neg fun y => q2 y.2]
      refine ⟨c2, j', ?_, by rw [hf]; exact b2⟩
      unfold X5_nextNewName X5_nextNewName_B19
      rw [cVv32, e, ob_some, F32_6, ob_some, d6, q1, if_pos (show nI 1 = 1 from rfl), cV32, c_begins h.2.2.1 d6 d8, show bgs T s p = true by simpa using q2, bd_eq, if_neg (by decide), cV32, show (1 : Int32) = nI 1 from rfl, e2, bd_eq, rZ_0]
  · have hf : fNew T s V p = 1 := by unfold fNew; rw [if_neg fun y => q1 y.1]
    refine ⟨c2, j', ?_, by rw [hf]; exact b2⟩
    unfold X5_nextNewName X5_nextNewName_B19
    rw [cVv32, e, ob_some, F32_6, ob_some, d6, if_neg (by rw [show (1 : Int32) = nI 1 from rfl, N_inj (by omega) (by omega)]; exact q1), cV32, show (1 : Int32) = nI 1 from rfl, e2, bd_eq, rZ_0]
theorem CK10 {x : Int32} (hv : isV v) (h : JC c0 c j v T s V p) : JC c0 (va_up c 32 (upd (c 32) 10 x)) j v T s V p := by
  obtain ⟨h1, h2, h3, h4, h5, h6, h7, h8⟩ := h
  have hv' : v = 2 ∨ v = 17 := hv
  exact ⟨⟨h1.1, h1.2.1, by rw [v32 (by decide)]; exact h1.2.2.1, fun i hi => by rw [vup_ne _ _ (by decide)]; exact h1.2.2.2 i hi⟩, by rw [v32 (by decide)]; exact h2, h3, by rw [v32 (by decide)]; exact h4, fun y a b => by rw [vup_ne _ _ a]; exact h5 y a b, h6.fr hv fun y a b => vup_ne _ _ (by omega), by rw [vup_ne _ _ (by omega)]; exact h7, h8⟩
theorem c_old1 (hv : isV v) (g : GP T V) (h : JC c0 c j v T s V p) {r : Nat} (hr : r < 2) (z : fOld T s V r p = 0) : ∃ c' j', X5_nextNameOf 32 (33 + r) (nI (V 20 r)) (enc c j w m n) = some (1, enc c' j' w m n) ∧ JC c0 c' j' v T s V (nxq T s p) ∧ c' 32 10 = nI (fix T s V r p) ∧ c' 32 7 = nI (stp T s p) := by
  obtain ⟨c', j', e, h', d6, d7, d9, d8⟩ := c_rd (w := w) (m := m) (n := n) hv h
  have gn := g.2.2.2.2.1
  have cc := g.cc
  unfold fOld at z
  split at z
  · rename_i hz
    split at z
    · rename_i hk
      have N0 := c_num (c := c') (w := w) (m := m) (n := n) h.2.2.1 gn g.cc h'.2.2.2.2.2.2.2 hz.1 d8 hr
      have hc : V 20 r < 100 := by rcases Nat.lt_or_ge r 1 with a | a
                                   · rw [show r = 0 by omega]; omega
                                   · rw [show r = 1 by omega]; omega
      rw [if_pos hk] at N0
      refine ⟨_, j', ?_, CK10 (x := nI (fix T s V r p)) hv h', u32, by rw [v32 (by decide)]; exact d7⟩
      unfold X5_nextNameOf X5_nextNameOf_B51
      rw [cVv32, e, ob_some, F32_6, ob_some, d6, hz.1, if_pos (show nI 1 = 1 from rfl), cV32, c_begins h.2.2.1 d6 d8, hz.2, bd_eq, if_pos (by decide), cV32, N0, bd_eq, F32_p10, ob_some, F32_10, ob_some, u32, if_neg (n_neg1 (by omega)), rZ_1]; rfl
    · cases z
  · cases z
theorem c_old0 (hv : isV v) (g : GP T V) (h : JC c0 c j v T s V p) {r : Nat} (hr : r < 2) (z : fOld T s V r p ≠ 0) : ∃ c' j', X5_nextNameOf 32 (33 + r) (nI (V 20 r)) (enc c j w m n) = some (0, enc c' j' w m n) ∧ BC c0 c' v (fOld T s V r p) (stp T s p) := by
  obtain ⟨c', j', e, h', d6, d7, d9, d8⟩ := c_rd (w := w) (m := m) (n := n) hv h
  have gn := g.2.2.2.2.1
  have h4 := srt_le (T := T) h.2.2.1
  obtain ⟨c2, e2, b2⟩ := c_fail (w := w) (m := m) (n := n) (f := 1) hv h' d7
  by_cases q1 : srt T s p = 1
  · by_cases q2 : bgs T s p = false
    · have N0 := c_num (c := c') (w := w) (m := m) (n := n) h.2.2.1 gn g.cc h'.2.2.2.2.2.2.2 q1 d8 hr
      obtain ⟨c3, e3, b3⟩ := c_fail (w := w) (m := m) (n := n) (f := 2) hv (CK10 (x := -1) hv h') (by rw [v32 (by decide)]; exact d7)
      have hk : ¬ fdx (nmB T s V r p) (V 20 r) < V 20 r := fun y => z (by unfold fOld; rw [if_pos ⟨q1, q2⟩, if_pos y])
      have hf : fOld T s V r p = 2 := by unfold fOld; rw [if_pos ⟨q1, q2⟩, if_neg hk]
      rw [if_neg hk] at N0
      refine ⟨c3, j', ?_, by rw [hf]; exact b3⟩
      unfold X5_nextNameOf
      rw [cVv32, e, ob_some, F32_6, ob_some, d6, q1, if_pos (show nI 1 = 1 from rfl), cV32, c_begins h.2.2.1 d6 d8, q2, bd_eq, if_pos (by decide), cV32, N0, bd_eq, F32_p10, ob_some, F32_10, ob_some, u32, if_pos rfl, cV32, show (2 : Int32) = nI 2 from rfl, e3, bd_eq, if_pos rfl, rZ_0]
    · have hf : fOld T s V r p = 1 := by unfold fOld; rw [if_neg fun y => q2 y.2]
      refine ⟨c2, j', ?_, by rw [hf]; exact b2⟩
      unfold X5_nextNameOf X5_nextNameOf_B19
      rw [cVv32, e, ob_some, F32_6, ob_some, d6, q1, if_pos (show nI 1 = 1 from rfl), cV32, c_begins h.2.2.1 d6 d8, show bgs T s p = true by simpa using q2, bd_eq, if_neg (by decide), cV32, show (1 : Int32) = nI 1 from rfl, e2, bd_eq, rZ_0]
  · have hf : fOld T s V r p = 1 := by unfold fOld; rw [if_neg fun y => q1 y.1]
    refine ⟨c2, j', ?_, by rw [hf]; exact b2⟩
    unfold X5_nextNameOf X5_nextNameOf_B19
    rw [cVv32, e, ob_some, F32_6, ob_some, d6, if_neg (by rw [show (1 : Int32) = nI 1 from rfl, N_inj (by omega) (by omega)]; exact q1), cV32, show (1 : Int32) = nI 1 from rfl, e2, bd_eq, rZ_0]
/-- a row is added -/
theorem JC.add (hv : isV v) (h : JC c0 c j v T s V p) {t : Nat} {g : Nat → Option Nat} (ht : t < 7) {c' : Nat → Nat → Int32} {j' : Nat → Nat → Int64} (r : RV2 c' v (ad V t g)) (f : ∀ y, (y < v ∨ v + 15 ≤ y) → c' y = c y) (fv : c' v = c v) (hn : CNm j' T (ad V t g)) : JC c0 c' j' v T s (ad V t g) p := by
  obtain ⟨h1, h2, h3, h4, h5, h6, h7, h8⟩ := h
  have hv' : v = 2 ∨ v = 17 := hv
  exact ⟨⟨h1.1, h1.2.1, by rw [f 32 (by omega)]; exact h1.2.2.1, fun i hi => by rw [f 1 (by omega)]; exact h1.2.2.2 i hi⟩, by rw [f 32 (by omega)]; exact h2, h3, by rw [f 32 (by omega)]; exact h4, fun y a b => by rw [f y b]; exact h5 y a b, r, by rw [fv, ad_o (by omega)]; exact h7, hn⟩
theorem nm_ot {t : Nat} {g : Nat → Option Nat} (hg : GG t g) (h1 : 2 ≤ t) (ht : t < 7) (h : CNm j T V) : CNm j T (ad V t g) := by
  have o : ∀ a, 13 ≤ a → a < 17 → own t a = false := by
    have : ∀ t, t < 7 → 2 ≤ t → ∀ a, a < 17 → 13 ≤ a → own t a = false := by decide
    exact fun a h2 h3 => this t ht h1 a h3 h2
  intro r hr i hi
  rw [ad_o (by omega)] at hi
  rw [ad_ot hg (by omega) (o _ (by omega) (by omega)), ad_ot hg (by omega) (o _ (by omega) (by omega))]
  exact h r hr i hi
end
