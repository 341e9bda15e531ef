/-! a row an instruction, over the small machine -/
theorem go_iconst {P : PT} {M : MD} {pc : Nat} {L : List (Option Value)} {st : List Value} {h : Hp} {k n : Nat} {i : Int} {v : Int32} (hd : decode (mdB M) pc = .ok (.iconst i, 1)) (hv : Int32.ofInt i = v) (K : Go P M (pc + 1) L (.int v :: st) h k n) : Go P M pc L st h k n := by
  intro p l e s m args below meth c D ks sp ad0 n0 A Q hP hC ad H locs ls hp hl hL hs
  exact lv_iconst hC.1 hC.2.1 hd hv (K p l e s m args below meth c D ks sp ad0 n0 A Q hP hC ad H locs ls hp hl hL ⟨trivial, hs⟩)
theorem go_bipush {P : PT} {M : MD} {pc : Nat} {L : List (Option Value)} {st : List Value} {h : Hp} {k n : Nat} {i : Int} {v : Int32} (hd : decode (mdB M) pc = .ok (.bipush i, 2)) (hv : (Int8.ofInt i).toInt32 = v) (K : Go P M (pc + 2) L (.int v :: st) h k n) : Go P M pc L st h k n := by
  intro p l e s m args below meth c D ks sp ad0 n0 A Q hP hC ad H locs ls hp hl hL hs
  exact lv_bipush hC.1 hC.2.1 hd hv (K p l e s m args below meth c D ks sp ad0 n0 A Q hP hC ad H locs ls hp hl hL ⟨trivial, hs⟩)
theorem go_sipush {P : PT} {M : MD} {pc : Nat} {L : List (Option Value)} {st : List Value} {h : Hp} {k n : Nat} {i : Int} {v : Int32} (hd : decode (mdB M) pc = .ok (.sipush i, 3)) (hv : (Int16.ofInt i).toInt32 = v) (K : Go P M (pc + 3) L (.int v :: st) h k n) : Go P M pc L st h k n := by
  intro p l e s m args below meth c D ks sp ad0 n0 A Q hP hC ad H locs ls hp hl hL hs
  exact lv_sipush hC.1 hC.2.1 hd hv (K p l e s m args below meth c D ks sp ad0 n0 A Q hP hC ad H locs ls hp hl hL ⟨trivial, hs⟩)
theorem go_lconst {P : PT} {M : MD} {pc : Nat} {L : List (Option Value)} {st : List Value} {h : Hp} {k n : Nat} {i : Fin 2} {v : Int64} (hd : decode (mdB M) pc = .ok (.lconst i, 1)) (hv : Int64.ofNat (i : Nat) = v) (K : Go P M (pc + 1) L (.long v :: st) h k n) : Go P M pc L st h k n := by
  intro p l e s m args below meth c D ks sp ad0 n0 A Q hP hC ad H locs ls hp hl hL hs
  exact lv_lconst hC.1 hC.2.1 hd hv (K p l e s m args below meth c D ks sp ad0 n0 A Q hP hC ad H locs ls hp hl hL ⟨trivial, hs⟩)
theorem go_null {P : PT} {M : MD} {pc : Nat} {L : List (Option Value)} {st : List Value} {h : Hp} {k n : Nat} (hd : decode (mdB M) pc = .ok (.aconst_null, 1)) (K : Go P M (pc + 1) L (.null :: st) h k n) : Go P M pc L st h k n := by
  intro p l e s m args below meth c D ks sp ad0 n0 A Q hP hC ad H locs ls hp hl hL hs
  exact lv_null hC.1 hC.2.1 hd (K p l e s m args below meth c D ks sp ad0 n0 A Q hP hC ad H locs ls hp hl hL ⟨trivial, hs⟩)
theorem go_ldc {P : PT} {M : MD} {pc : Nat} {L : List (Option Value)} {st : List Value} {h : Hp} {k n : Nat} {i : Nat} {v : Int32} (hd : decode (mdB M) pc = .ok (.ldc i, 2)) (hw : Cond.constant (mdY M).cls i v ∈ TB) (K : Go P M (pc + 2) L (.int v :: st) h k n) : Go P M pc L st h k n := by
  intro p l e s m args below meth c D ks sp ad0 n0 A Q hP hC ad H locs ls hp hl hL hs
  exact lv_ldc hC.1 hC.2.1 hC.2.2.2.2.1 (hC.2.2.2.2.2.1 _ hw) hd (K p l e s m args below meth c D ks sp ad0 n0 A Q hP hC ad H locs ls hp hl hL ⟨trivial, hs⟩)
theorem go_ldcw {P : PT} {M : MD} {pc : Nat} {L : List (Option Value)} {st : List Value} {h : Hp} {k n : Nat} {i : Nat} {v : Int32} (hd : decode (mdB M) pc = .ok (.ldc_w i, 3)) (hw : Cond.constant (mdY M).cls i v ∈ TB) (K : Go P M (pc + 3) L (.int v :: st) h k n) : Go P M pc L st h k n := by
  intro p l e s m args below meth c D ks sp ad0 n0 A Q hP hC ad H locs ls hp hl hL hs
  exact lv_ldcw hC.1 hC.2.1 hC.2.2.2.2.1 (hC.2.2.2.2.2.1 _ hw) hd (K p l e s m args below meth c D ks sp ad0 n0 A Q hP hC ad H locs ls hp hl hL ⟨trivial, hs⟩)
theorem go_ldc2 {P : PT} {M : MD} {pc : Nat} {L : List (Option Value)} {st : List Value} {h : Hp} {k n : Nat} {i : Nat} {v : Int64} (hd : decode (mdB M) pc = .ok (.ldc2_w i, 3)) (hw : Cond.constantLong (mdY M).cls i v ∈ TB) (K : Go P M (pc + 3) L (.long v :: st) h k n) : Go P M pc L st h k n := by
  intro p l e s m args below meth c D ks sp ad0 n0 A Q hP hC ad H locs ls hp hl hL hs
  exact lv_ldc2 hC.1 hC.2.1 hC.2.2.2.2.1 (hC.2.2.2.2.2.1 _ hw) hd (K p l e s m args below meth c D ks sp ad0 n0 A Q hP hC ad H locs ls hp hl hL ⟨trivial, hs⟩)
theorem go_ldcS {P : PT} {M : MD} {pc : Nat} {L : List (Option Value)} {st : List Value} {h : Hp} {k n : Nat} {i : Nat} (j : Nat) {tx : String} (hd : decode (mdB M) pc = .ok (.ldc i, 2)) (hw : strK[j]? = some ((mdY M).cls, i, tx)) (K : Go P M (pc + 2) L (.retAddr j :: st) h k n) : Go P M pc L st h k n := by
  intro p l e s m args below meth c D ks sp ad0 n0 A Q hP hC ad H locs ls hp hl hL hs
  exact va_ldcS hC.1 hC.2.1 hC.2.2.2.2.1 (hC.2.2.2.2.2.2.2.2.1.2.1 j _ hw) hd (K p l e s m args below meth c D ks sp ad0 n0 A Q hP hC ad H locs ls hp hl hL ⟨trivial, hs⟩)
theorem go_iload {P : PT} {M : MD} {pc : Nat} {L : List (Option Value)} {st : List Value} {h : Hp} {k n : Nat} {i : Nat} {x : Int32} (hd : decode (mdB M) pc = .ok (.iload i, 2)) (hi : L[i]? = some (some (.int x))) (K : Go P M (pc + 2) L (.int x :: st) h k n) : Go P M pc L st h k n := by
  intro p l e s m args below meth c D ks sp ad0 n0 A Q hP hC ad H locs ls hp hl hL hs
  exact lv_iload hC.1 hC.2.1 hd (prs_at hl hi) (K p l e s m args below meth c D ks sp ad0 n0 A Q hP hC ad H locs ls hp hl hL ⟨trivial, hs⟩)
theorem go_iload_n {P : PT} {M : MD} {pc : Nat} {L : List (Option Value)} {st : List Value} {h : Hp} {k n : Nat} {j : Fin 4} {i : Nat} {x : Int32} (hd : decode (mdB M) pc = .ok (.iload_n j, 1)) (hj : (j : Nat) = i) (hi : L[i]? = some (some (.int x))) (K : Go P M (pc + 1) L (.int x :: st) h k n) : Go P M pc L st h k n := by
  intro p l e s m args below meth c D ks sp ad0 n0 A Q hP hC ad H locs ls hp hl hL hs
  exact lv_iload_n hC.1 hC.2.1 hd hj (prs_at hl hi) (K p l e s m args below meth c D ks sp ad0 n0 A Q hP hC ad H locs ls hp hl hL ⟨trivial, hs⟩)
theorem go_lload {P : PT} {M : MD} {pc : Nat} {L : List (Option Value)} {st : List Value} {h : Hp} {k n : Nat} {i : Nat} {x : Int64} (hd : decode (mdB M) pc = .ok (.lload i, 2)) (hi : L[i]? = some (some (.long x))) (K : Go P M (pc + 2) L (.long x :: st) h k n) : Go P M pc L st h k n := by
  intro p l e s m args below meth c D ks sp ad0 n0 A Q hP hC ad H locs ls hp hl hL hs
  exact lv_lload hC.1 hC.2.1 hd (prs_at hl hi) (K p l e s m args below meth c D ks sp ad0 n0 A Q hP hC ad H locs ls hp hl hL ⟨trivial, hs⟩)
theorem go_lload_n {P : PT} {M : MD} {pc : Nat} {L : List (Option Value)} {st : List Value} {h : Hp} {k n : Nat} {j : Fin 4} {i : Nat} {x : Int64} (hd : decode (mdB M) pc = .ok (.lload_n j, 1)) (hj : (j : Nat) = i) (hi : L[i]? = some (some (.long x))) (K : Go P M (pc + 1) L (.long x :: st) h k n) : Go P M pc L st h k n := by
  intro p l e s m args below meth c D ks sp ad0 n0 A Q hP hC ad H locs ls hp hl hL hs
  exact lv_lload_n hC.1 hC.2.1 hd hj (prs_at hl hi) (K p l e s m args below meth c D ks sp ad0 n0 A Q hP hC ad H locs ls hp hl hL ⟨trivial, hs⟩)
theorem go_aload {P : PT} {M : MD} {pc : Nat} {L : List (Option Value)} {st : List Value} {h : Hp} {k n : Nat} {i : Nat} {x : Nat} (hd : decode (mdB M) pc = .ok (.aload i, 2)) (hi : L[i]? = some (some (.ref x))) (K : Go P M (pc + 2) L (.ref x :: st) h k n) : Go P M pc L st h k n := by
  intro p l e s m args below meth c D ks sp ad0 n0 A Q hP hC ad H locs ls hp hl hL hs
  exact lv_aload hC.1 hC.2.1 hd (prs_at hl hi) (K p l e s m args below meth c D ks sp ad0 n0 A Q hP hC ad H locs ls hp hl hL ⟨wfL_get hL i _ hi, hs⟩)
theorem go_aload_n {P : PT} {M : MD} {pc : Nat} {L : List (Option Value)} {st : List Value} {h : Hp} {k n : Nat} {j : Fin 4} {i : Nat} {x : Nat} (hd : decode (mdB M) pc = .ok (.aload_n j, 1)) (hj : (j : Nat) = i) (hi : L[i]? = some (some (.ref x))) (K : Go P M (pc + 1) L (.ref x :: st) h k n) : Go P M pc L st h k n := by
  intro p l e s m args below meth c D ks sp ad0 n0 A Q hP hC ad H locs ls hp hl hL hs
  exact lv_aload_n hC.1 hC.2.1 hd hj (prs_at hl hi) (K p l e s m args below meth c D ks sp ad0 n0 A Q hP hC ad H locs ls hp hl hL ⟨wfL_get hL i _ hi, hs⟩)
theorem go_aloadS {P : PT} {M : MD} {pc : Nat} {L : List (Option Value)} {st : List Value} {h : Hp} {k n : Nat} {i : Nat} {x : Nat} (hd : decode (mdB M) pc = .ok (.aload i, 2)) (hi : L[i]? = some (some (.retAddr x))) (K : Go P M (pc + 2) L (.retAddr x :: st) h k n) : Go P M pc L st h k n := by
  intro p l e s m args below meth c D ks sp ad0 n0 A Q hP hC ad H locs ls hp hl hL hs
  exact lv_aload hC.1 hC.2.1 hd (prs_at hl hi) (K p l e s m args below meth c D ks sp ad0 n0 A Q hP hC ad H locs ls hp hl hL ⟨trivial, hs⟩)
theorem go_aload_nS {P : PT} {M : MD} {pc : Nat} {L : List (Option Value)} {st : List Value} {h : Hp} {k n : Nat} {j : Fin 4} {i : Nat} {x : Nat} (hd : decode (mdB M) pc = .ok (.aload_n j, 1)) (hj : (j : Nat) = i) (hi : L[i]? = some (some (.retAddr x))) (K : Go P M (pc + 1) L (.retAddr x :: st) h k n) : Go P M pc L st h k n := by
  intro p l e s m args below meth c D ks sp ad0 n0 A Q hP hC ad H locs ls hp hl hL hs
  exact lv_aload_n hC.1 hC.2.1 hd hj (prs_at hl hi) (K p l e s m args below meth c D ks sp ad0 n0 A Q hP hC ad H locs ls hp hl hL ⟨trivial, hs⟩)
theorem go_aload_nN {P : PT} {M : MD} {pc : Nat} {L : List (Option Value)} {st : List Value} {h : Hp} {k n : Nat} {j : Fin 4} {i : Nat} (hd : decode (mdB M) pc = .ok (.aload_n j, 1)) (hj : (j : Nat) = i) (hi : L[i]? = some (some .null)) (K : Go P M (pc + 1) L (.null :: st) h k n) : Go P M pc L st h k n := by
  intro p l e s m args below meth c D ks sp ad0 n0 A Q hP hC ad H locs ls hp hl hL hs
  exact lv_aload_nN hC.1 hC.2.1 hd hj (prs_at hl hi) (K p l e s m args below meth c D ks sp ad0 n0 A Q hP hC ad H locs ls hp hl hL ⟨trivial, hs⟩)
theorem go_aloadN {P : PT} {M : MD} {pc : Nat} {L : List (Option Value)} {st : List Value} {h : Hp} {k n : Nat} {i : Nat} (hd : decode (mdB M) pc = .ok (.aload i, 2)) (hi : L[i]? = some (some .null)) (K : Go P M (pc + 2) L (.null :: st) h k n) : Go P M pc L st h k n := by
  intro p l e s m args below meth c D ks sp ad0 n0 A Q hP hC ad H locs ls hp hl hL hs
  exact lv_aloadN hC.1 hC.2.1 hd (prs_at hl hi) (K p l e s m args below meth c D ks sp ad0 n0 A Q hP hC ad H locs ls hp hl hL ⟨trivial, hs⟩)
theorem go_istore {P : PT} {M : MD} {pc : Nat} {L : List (Option Value)} {st : List Value} {h : Hp} {k n : Nat} {i : Nat} {x : Int32} {L' : List (Option Value)} (hd : decode (mdB M) pc = .ok (.istore i, 2)) (hn : i < mdL M) (hL' : stL1 L i (.int x) = L') (K : Go P M (pc + 2) L' st h k n) : Go P M pc L (.int x :: st) h k n := by
  intro p l e s m args below meth c D ks sp ad0 n0 A Q hP hC ad H locs ls hp hl hL hs
  subst hL'
  exact lv_istore hC.1 hC.2.1 hd hl hn rfl (fun ls' hl' => K p l e s m args below meth c D ks sp ad0 n0 A Q hP hC ad H locs ls' hp (prs_st1 rfl hl') (wfL_st1 hL hs.1) hs.2)
theorem go_istore_n {P : PT} {M : MD} {pc : Nat} {L : List (Option Value)} {st : List Value} {h : Hp} {k n : Nat} {j : Fin 4} {i : Nat} {x : Int32} {L' : List (Option Value)} (hd : decode (mdB M) pc = .ok (.istore_n j, 1)) (hj : (j : Nat) = i) (hn : i < mdL M) (hL' : stL1 L i (.int x) = L') (K : Go P M (pc + 1) L' st h k n) : Go P M pc L (.int x :: st) h k n := by
  intro p l e s m args below meth c D ks sp ad0 n0 A Q hP hC ad H locs ls hp hl hL hs
  subst hL'
  exact lv_istore_n hC.1 hC.2.1 hd hj hl hn rfl (fun ls' hl' => K p l e s m args below meth c D ks sp ad0 n0 A Q hP hC ad H locs ls' hp (prs_st1 rfl hl') (wfL_st1 hL hs.1) hs.2)
theorem go_lstore {P : PT} {M : MD} {pc : Nat} {L : List (Option Value)} {st : List Value} {h : Hp} {k n : Nat} {i : Nat} {x : Int64} {L' : List (Option Value)} (hd : decode (mdB M) pc = .ok (.lstore i, 2)) (hn : i + 1 < mdL M) (hL' : stL2 L i (.long x) = L') (K : Go P M (pc + 2) L' st h k n) : Go P M pc L (.long x :: st) h k n := by
  intro p l e s m args below meth c D ks sp ad0 n0 A Q hP hC ad H locs ls hp hl hL hs
  subst hL'
  exact lv_lstore hC.1 hC.2.1 hd hl hn rfl (fun ls' hl' => K p l e s m args below meth c D ks sp ad0 n0 A Q hP hC ad H locs ls' hp (prs_st2 rfl hl') (wfL_st2 hL hs.1) hs.2)
theorem go_lstore_n {P : PT} {M : MD} {pc : Nat} {L : List (Option Value)} {st : List Value} {h : Hp} {k n : Nat} {j : Fin 4} {i : Nat} {x : Int64} {L' : List (Option Value)} (hd : decode (mdB M) pc = .ok (.lstore_n j, 1)) (hj : (j : Nat) = i) (hn : i + 1 < mdL M) (hL' : stL2 L i (.long x) = L') (K : Go P M (pc + 1) L' st h k n) : Go P M pc L (.long x :: st) h k n := by
  intro p l e s m args below meth c D ks sp ad0 n0 A Q hP hC ad H locs ls hp hl hL hs
  subst hL'
  exact lv_lstore_n hC.1 hC.2.1 hd hj hl hn rfl (fun ls' hl' => K p l e s m args below meth c D ks sp ad0 n0 A Q hP hC ad H locs ls' hp (prs_st2 rfl hl') (wfL_st2 hL hs.1) hs.2)
theorem go_astore {P : PT} {M : MD} {pc : Nat} {L : List (Option Value)} {st : List Value} {h : Hp} {k n : Nat} {i : Nat} {x : Nat} {L' : List (Option Value)} (hd : decode (mdB M) pc = .ok (.astore i, 2)) (hn : i < mdL M) (hL' : stL1 L i (.ref x) = L') (K : Go P M (pc + 2) L' st h k n) : Go P M pc L (.ref x :: st) h k n := by
  intro p l e s m args below meth c D ks sp ad0 n0 A Q hP hC ad H locs ls hp hl hL hs
  subst hL'
  exact lv_astore hC.1 hC.2.1 hd hl hn rfl (fun ls' hl' => K p l e s m args below meth c D ks sp ad0 n0 A Q hP hC ad H locs ls' hp (prs_st1 rfl hl') (wfL_st1 hL hs.1) hs.2)
theorem go_astore_n {P : PT} {M : MD} {pc : Nat} {L : List (Option Value)} {st : List Value} {h : Hp} {k n : Nat} {j : Fin 4} {i : Nat} {x : Nat} {L' : List (Option Value)} (hd : decode (mdB M) pc = .ok (.astore_n j, 1)) (hj : (j : Nat) = i) (hn : i < mdL M) (hL' : stL1 L i (.ref x) = L') (K : Go P M (pc + 1) L' st h k n) : Go P M pc L (.ref x :: st) h k n := by
  intro p l e s m args below meth c D ks sp ad0 n0 A Q hP hC ad H locs ls hp hl hL hs
  subst hL'
  exact lv_astore_n hC.1 hC.2.1 hd hj hl hn rfl (fun ls' hl' => K p l e s m args below meth c D ks sp ad0 n0 A Q hP hC ad H locs ls' hp (prs_st1 rfl hl') (wfL_st1 hL hs.1) hs.2)
theorem go_astoreN {P : PT} {M : MD} {pc : Nat} {L : List (Option Value)} {st : List Value} {h : Hp} {k n : Nat} {i : Nat} {L' : List (Option Value)} (hd : decode (mdB M) pc = .ok (.astore i, 2)) (hn : i < mdL M) (hL' : stL1 L i .null = L') (K : Go P M (pc + 2) L' st h k n) : Go P M pc L (.null :: st) h k n := by
  intro p l e s m args below meth c D ks sp ad0 n0 A Q hP hC ad H locs ls hp hl hL hs
  subst hL'
  exact lv_astoreN hC.1 hC.2.1 hd hl hn rfl (fun ls' hl' => K p l e s m args below meth c D ks sp ad0 n0 A Q hP hC ad H locs ls' hp (prs_st1 rfl hl') (wfL_st1 hL hs.1) hs.2)
theorem go_astore_nN {P : PT} {M : MD} {pc : Nat} {L : List (Option Value)} {st : List Value} {h : Hp} {k n : Nat} {j : Fin 4} {i : Nat} {L' : List (Option Value)} (hd : decode (mdB M) pc = .ok (.astore_n j, 1)) (hj : (j : Nat) = i) (hn : i < mdL M) (hL' : stL1 L i .null = L') (K : Go P M (pc + 1) L' st h k n) : Go P M pc L (.null :: st) h k n := by
  intro p l e s m args below meth c D ks sp ad0 n0 A Q hP hC ad H locs ls hp hl hL hs
  subst hL'
  exact lv_astore_nN hC.1 hC.2.1 hd hj hl hn rfl (fun ls' hl' => K p l e s m args below meth c D ks sp ad0 n0 A Q hP hC ad H locs ls' hp (prs_st1 rfl hl') (wfL_st1 hL hs.1) hs.2)
theorem go_iinc {P : PT} {M : MD} {pc : Nat} {L : List (Option Value)} {st : List Value} {h : Hp} {k n : Nat} {i : Nat} {c0 : Int} {x v : Int32} {L' : List (Option Value)} (hd : decode (mdB M) pc = .ok (.iinc i c0, 3)) (hi : L[i]? = some (some (.int x))) (hv : x + Int32.ofInt c0 = v) (hn : i < mdL M) (hL' : stL1 L i (.int v) = L') (K : Go P M (pc + 3) L' st h k n) : Go P M pc L st h k n := by
  intro p l e s m args below meth c D ks sp ad0 n0 A Q hP hC ad H locs ls hp hl hL hs
  subst hL'
  obtain ⟨q, hq⟩ := List.getElem?_of_mem (prs_mem (sp := sp) (ad := ad) (b := 0) (L := L) (q := (0 + i, .int x)).mpr ⟨i, .int x, hi, rfl⟩)
  rw [Nat.zero_add] at hq
  exact lv_iinc hC.1 hC.2.1 hd hl hq hv hn rfl (fun ls' hl' => K p l e s m args below meth c D ks sp ad0 n0 A Q hP hC ad H locs ls' hp (prs_st1 rfl hl') (wfL_st1 hL trivial) hs)
theorem go_iadd {P : PT} {M : MD} {pc : Nat} {L : List (Option Value)} {st : List Value} {h : Hp} {k n : Nat} {x y : Int32} (hd : decode (mdB M) pc = .ok (.iadd, 1)) (K : Go P M (pc + 1) L (.int (x + y) :: st) h k n) : Go P M pc L (.int y :: .int x :: st) h k n := by
  intro p l e s m args below meth c D ks sp ad0 n0 A Q hP hC ad H locs ls hp hl hL hs
  exact lv_iadd hC.1 hC.2.1 hd (K p l e s m args below meth c D ks sp ad0 n0 A Q hP hC ad H locs ls hp hl hL ⟨trivial, hs.2.2⟩)
theorem go_isub {P : PT} {M : MD} {pc : Nat} {L : List (Option Value)} {st : List Value} {h : Hp} {k n : Nat} {x y : Int32} (hd : decode (mdB M) pc = .ok (.isub, 1)) (K : Go P M (pc + 1) L (.int (x - y) :: st) h k n) : Go P M pc L (.int y :: .int x :: st) h k n := by
  intro p l e s m args below meth c D ks sp ad0 n0 A Q hP hC ad H locs ls hp hl hL hs
  exact lv_isub hC.1 hC.2.1 hd (K p l e s m args below meth c D ks sp ad0 n0 A Q hP hC ad H locs ls hp hl hL ⟨trivial, hs.2.2⟩)
theorem go_imul {P : PT} {M : MD} {pc : Nat} {L : List (Option Value)} {st : List Value} {h : Hp} {k n : Nat} {x y : Int32} (hd : decode (mdB M) pc = .ok (.imul, 1)) (K : Go P M (pc + 1) L (.int (x * y) :: st) h k n) : Go P M pc L (.int y :: .int x :: st) h k n := by
  intro p l e s m args below meth c D ks sp ad0 n0 A Q hP hC ad H locs ls hp hl hL hs
  exact lv_imul hC.1 hC.2.1 hd (K p l e s m args below meth c D ks sp ad0 n0 A Q hP hC ad H locs ls hp hl hL ⟨trivial, hs.2.2⟩)
theorem go_iand {P : PT} {M : MD} {pc : Nat} {L : List (Option Value)} {st : List Value} {h : Hp} {k n : Nat} {x y : Int32} (hd : decode (mdB M) pc = .ok (.iand, 1)) (K : Go P M (pc + 1) L (.int (x &&& y) :: st) h k n) : Go P M pc L (.int y :: .int x :: st) h k n := by
  intro p l e s m args below meth c D ks sp ad0 n0 A Q hP hC ad H locs ls hp hl hL hs
  exact lv_iand hC.1 hC.2.1 hd (K p l e s m args below meth c D ks sp ad0 n0 A Q hP hC ad H locs ls hp hl hL ⟨trivial, hs.2.2⟩)
theorem go_ior {P : PT} {M : MD} {pc : Nat} {L : List (Option Value)} {st : List Value} {h : Hp} {k n : Nat} {x y : Int32} (hd : decode (mdB M) pc = .ok (.ior, 1)) (K : Go P M (pc + 1) L (.int (x ||| y) :: st) h k n) : Go P M pc L (.int y :: .int x :: st) h k n := by
  intro p l e s m args below meth c D ks sp ad0 n0 A Q hP hC ad H locs ls hp hl hL hs
  exact lv_ior hC.1 hC.2.1 hd (K p l e s m args below meth c D ks sp ad0 n0 A Q hP hC ad H locs ls hp hl hL ⟨trivial, hs.2.2⟩)
theorem go_ixor {P : PT} {M : MD} {pc : Nat} {L : List (Option Value)} {st : List Value} {h : Hp} {k n : Nat} {x y : Int32} (hd : decode (mdB M) pc = .ok (.ixor, 1)) (K : Go P M (pc + 1) L (.int (x ^^^ y) :: st) h k n) : Go P M pc L (.int y :: .int x :: st) h k n := by
  intro p l e s m args below meth c D ks sp ad0 n0 A Q hP hC ad H locs ls hp hl hL hs
  exact lv_ixor hC.1 hC.2.1 hd (K p l e s m args below meth c D ks sp ad0 n0 A Q hP hC ad H locs ls hp hl hL ⟨trivial, hs.2.2⟩)
theorem go_ishl {P : PT} {M : MD} {pc : Nat} {L : List (Option Value)} {st : List Value} {h : Hp} {k n : Nat} {x y : Int32} (hd : decode (mdB M) pc = .ok (.ishl, 1)) (K : Go P M (pc + 1) L (.int (x <<< (y &&& 31)) :: st) h k n) : Go P M pc L (.int y :: .int x :: st) h k n := by
  intro p l e s m args below meth c D ks sp ad0 n0 A Q hP hC ad H locs ls hp hl hL hs
  exact lv_ishl hC.1 hC.2.1 hd (K p l e s m args below meth c D ks sp ad0 n0 A Q hP hC ad H locs ls hp hl hL ⟨trivial, hs.2.2⟩)
theorem go_ishr {P : PT} {M : MD} {pc : Nat} {L : List (Option Value)} {st : List Value} {h : Hp} {k n : Nat} {x y : Int32} (hd : decode (mdB M) pc = .ok (.ishr, 1)) (K : Go P M (pc + 1) L (.int (x >>> (y &&& 31)) :: st) h k n) : Go P M pc L (.int y :: .int x :: st) h k n := by
  intro p l e s m args below meth c D ks sp ad0 n0 A Q hP hC ad H locs ls hp hl hL hs
  exact lv_ishr hC.1 hC.2.1 hd (K p l e s m args below meth c D ks sp ad0 n0 A Q hP hC ad H locs ls hp hl hL ⟨trivial, hs.2.2⟩)
theorem go_ladd {P : PT} {M : MD} {pc : Nat} {L : List (Option Value)} {st : List Value} {h : Hp} {k n : Nat} {x y : Int64} (hd : decode (mdB M) pc = .ok (.ladd, 1)) (K : Go P M (pc + 1) L (.long (x + y) :: st) h k n) : Go P M pc L (.long y :: .long x :: st) h k n := by
  intro p l e s m args below meth c D ks sp ad0 n0 A Q hP hC ad H locs ls hp hl hL hs
  exact lv_ladd hC.1 hC.2.1 hd (K p l e s m args below meth c D ks sp ad0 n0 A Q hP hC ad H locs ls hp hl hL ⟨trivial, hs.2.2⟩)
theorem go_lsub {P : PT} {M : MD} {pc : Nat} {L : List (Option Value)} {st : List Value} {h : Hp} {k n : Nat} {x y : Int64} (hd : decode (mdB M) pc = .ok (.lsub, 1)) (K : Go P M (pc + 1) L (.long (x - y) :: st) h k n) : Go P M pc L (.long y :: .long x :: st) h k n := by
  intro p l e s m args below meth c D ks sp ad0 n0 A Q hP hC ad H locs ls hp hl hL hs
  exact lv_lsub hC.1 hC.2.1 hd (K p l e s m args below meth c D ks sp ad0 n0 A Q hP hC ad H locs ls hp hl hL ⟨trivial, hs.2.2⟩)
theorem go_lmul {P : PT} {M : MD} {pc : Nat} {L : List (Option Value)} {st : List Value} {h : Hp} {k n : Nat} {x y : Int64} (hd : decode (mdB M) pc = .ok (.lmul, 1)) (K : Go P M (pc + 1) L (.long (x * y) :: st) h k n) : Go P M pc L (.long y :: .long x :: st) h k n := by
  intro p l e s m args below meth c D ks sp ad0 n0 A Q hP hC ad H locs ls hp hl hL hs
  exact lv_lmul hC.1 hC.2.1 hd (K p l e s m args below meth c D ks sp ad0 n0 A Q hP hC ad H locs ls hp hl hL ⟨trivial, hs.2.2⟩)
theorem go_lor {P : PT} {M : MD} {pc : Nat} {L : List (Option Value)} {st : List Value} {h : Hp} {k n : Nat} {x y : Int64} (hd : decode (mdB M) pc = .ok (.lor, 1)) (K : Go P M (pc + 1) L (.long (x ||| y) :: st) h k n) : Go P M pc L (.long y :: .long x :: st) h k n := by
  intro p l e s m args below meth c D ks sp ad0 n0 A Q hP hC ad H locs ls hp hl hL hs
  exact lv_lor hC.1 hC.2.1 hd (K p l e s m args below meth c D ks sp ad0 n0 A Q hP hC ad H locs ls hp hl hL ⟨trivial, hs.2.2⟩)
theorem go_land {P : PT} {M : MD} {pc : Nat} {L : List (Option Value)} {st : List Value} {h : Hp} {k n : Nat} {x y : Int64} (hd : decode (mdB M) pc = .ok (.land, 1)) (K : Go P M (pc + 1) L (.long (x &&& y) :: st) h k n) : Go P M pc L (.long y :: .long x :: st) h k n := by
  intro p l e s m args below meth c D ks sp ad0 n0 A Q hP hC ad H locs ls hp hl hL hs
  exact lv_land hC.1 hC.2.1 hd (K p l e s m args below meth c D ks sp ad0 n0 A Q hP hC ad H locs ls hp hl hL ⟨trivial, hs.2.2⟩)
theorem go_idiv {P : PT} {M : MD} {pc : Nat} {L : List (Option Value)} {st : List Value} {h : Hp} {k n : Nat} {x y : Int32} (hd : decode (mdB M) pc = .ok (.idiv, 1)) (hne : ¬ y = 0) (K : Go P M (pc + 1) L (.int (x / y) :: st) h k n) : Go P M pc L (.int y :: .int x :: st) h k n := by
  intro p l e s m args below meth c D ks sp ad0 n0 A Q hP hC ad H locs ls hp hl hL hs
  exact lv_idiv hC.1 hC.2.1 hd hne (K p l e s m args below meth c D ks sp ad0 n0 A Q hP hC ad H locs ls hp hl hL ⟨trivial, hs.2.2⟩)
theorem go_irem {P : PT} {M : MD} {pc : Nat} {L : List (Option Value)} {st : List Value} {h : Hp} {k n : Nat} {x y : Int32} (hd : decode (mdB M) pc = .ok (.irem, 1)) (hne : ¬ y = 0) (K : Go P M (pc + 1) L (.int (x - x / y * y) :: st) h k n) : Go P M pc L (.int y :: .int x :: st) h k n := by
  intro p l e s m args below meth c D ks sp ad0 n0 A Q hP hC ad H locs ls hp hl hL hs
  exact lv_irem hC.1 hC.2.1 hd hne (K p l e s m args below meth c D ks sp ad0 n0 A Q hP hC ad H locs ls hp hl hL ⟨trivial, hs.2.2⟩)
theorem go_ldiv {P : PT} {M : MD} {pc : Nat} {L : List (Option Value)} {st : List Value} {h : Hp} {k n : Nat} {x y : Int64} (hd : decode (mdB M) pc = .ok (.ldiv, 1)) (hne : ¬ y = 0) (K : Go P M (pc + 1) L (.long (x / y) :: st) h k n) : Go P M pc L (.long y :: .long x :: st) h k n := by
  intro p l e s m args below meth c D ks sp ad0 n0 A Q hP hC ad H locs ls hp hl hL hs
  exact lv_ldiv hC.1 hC.2.1 hd hne (K p l e s m args below meth c D ks sp ad0 n0 A Q hP hC ad H locs ls hp hl hL ⟨trivial, hs.2.2⟩)
theorem go_lrem {P : PT} {M : MD} {pc : Nat} {L : List (Option Value)} {st : List Value} {h : Hp} {k n : Nat} {x y : Int64} (hd : decode (mdB M) pc = .ok (.lrem, 1)) (hne : ¬ y = 0) (K : Go P M (pc + 1) L (.long (x - x / y * y) :: st) h k n) : Go P M pc L (.long y :: .long x :: st) h k n := by
  intro p l e s m args below meth c D ks sp ad0 n0 A Q hP hC ad H locs ls hp hl hL hs
  exact lv_lrem hC.1 hC.2.1 hd hne (K p l e s m args below meth c D ks sp ad0 n0 A Q hP hC ad H locs ls hp hl hL ⟨trivial, hs.2.2⟩)
theorem go_ineg {P : PT} {M : MD} {pc : Nat} {L : List (Option Value)} {st : List Value} {h : Hp} {k n : Nat} {x : Int32} (hd : decode (mdB M) pc = .ok (.ineg, 1)) (K : Go P M (pc + 1) L (.int (-x) :: st) h k n) : Go P M pc L (.int x :: st) h k n := by
  intro p l e s m args below meth c D ks sp ad0 n0 A Q hP hC ad H locs ls hp hl hL hs
  exact lv_ineg hC.1 hC.2.1 hd (K p l e s m args below meth c D ks sp ad0 n0 A Q hP hC ad H locs ls hp hl hL ⟨trivial, hs.2⟩)
theorem go_i2l {P : PT} {M : MD} {pc : Nat} {L : List (Option Value)} {st : List Value} {h : Hp} {k n : Nat} {x : Int32} (hd : decode (mdB M) pc = .ok (.i2l, 1)) (K : Go P M (pc + 1) L (.long x.toInt64 :: st) h k n) : Go P M pc L (.int x :: st) h k n := by
  intro p l e s m args below meth c D ks sp ad0 n0 A Q hP hC ad H locs ls hp hl hL hs
  exact lv_i2l hC.1 hC.2.1 hd rfl (K p l e s m args below meth c D ks sp ad0 n0 A Q hP hC ad H locs ls hp hl hL ⟨trivial, hs.2⟩)
theorem go_i2b {P : PT} {M : MD} {pc : Nat} {L : List (Option Value)} {st : List Value} {h : Hp} {k n : Nat} {x : Int32} (hd : decode (mdB M) pc = .ok (.i2b, 1)) (K : Go P M (pc + 1) L (.int x.toInt8.toInt32 :: st) h k n) : Go P M pc L (.int x :: st) h k n := by
  intro p l e s m args below meth c D ks sp ad0 n0 A Q hP hC ad H locs ls hp hl hL hs
  exact lv_i2b hC.1 hC.2.1 hd rfl (K p l e s m args below meth c D ks sp ad0 n0 A Q hP hC ad H locs ls hp hl hL ⟨trivial, hs.2⟩)
theorem go_iushr {P : PT} {M : MD} {pc : Nat} {L : List (Option Value)} {st : List Value} {h : Hp} {k n : Nat} {x y : Int32} (hd : decode (mdB M) pc = .ok (.iushr, 1)) (K : Go P M (pc + 1) L (.int (x.toUInt32 >>> (y.toUInt32 &&& Int32.toUInt32 31)).toInt32 :: st) h k n) : Go P M pc L (.int y :: .int x :: st) h k n := by
  intro p l e s m args below meth c D ks sp ad0 n0 A Q hP hC ad H locs ls hp hl hL hs
  exact lv_iushr hC.1 hC.2.1 hd rfl (K p l e s m args below meth c D ks sp ad0 n0 A Q hP hC ad H locs ls hp hl hL ⟨trivial, hs.2.2⟩)
theorem go_lshl {P : PT} {M : MD} {pc : Nat} {L : List (Option Value)} {st : List Value} {h : Hp} {k n : Nat} {x : Int64} {y : Int32} (hd : decode (mdB M) pc = .ok (.lshl, 1)) (K : Go P M (pc + 1) L (.long (x <<< (y.toInt64 &&& 63)) :: st) h k n) : Go P M pc L (.int y :: .long x :: st) h k n := by
  intro p l e s m args below meth c D ks sp ad0 n0 A Q hP hC ad H locs ls hp hl hL hs
  exact lv_lshl hC.1 hC.2.1 hd rfl (K p l e s m args below meth c D ks sp ad0 n0 A Q hP hC ad H locs ls hp hl hL ⟨trivial, hs.2.2⟩)
theorem go_lcmp {P : PT} {M : MD} {pc : Nat} {L : List (Option Value)} {st : List Value} {h : Hp} {k n : Nat} {x y : Int64} (hd : decode (mdB M) pc = .ok (.lcmp, 1)) (K : Go P M (pc + 1) L (.int (lg_cmp x y) :: st) h k n) : Go P M pc L (.long y :: .long x :: st) h k n := by
  intro p l e s m args below meth c D ks sp ad0 n0 A Q hP hC ad H locs ls hp hl hL hs
  exact W.lcmp hC.1 hC.2.1 hd (K p l e s m args below meth c D ks sp ad0 n0 A Q hP hC ad H locs ls hp hl hL ⟨trivial, hs.2.2⟩)
theorem go_dup {P : PT} {M : MD} {pc : Nat} {L : List (Option Value)} {st : List Value} {h : Hp} {k n : Nat} {v : Value} (hd : decode (mdB M) pc = .ok (.dup, 1)) (hv : v.category = 1) (K : Go P M (pc + 1) L (v :: v :: st) h k n) : Go P M pc L (v :: st) h k n := by
  intro p l e s m args below meth c D ks sp ad0 n0 A Q hP hC ad H locs ls hp hl hL hs
  exact lv_dup hC.1 hC.2.1 hd ((tv_cat sp ad v).trans hv) (K p l e s m args below meth c D ks sp ad0 n0 A Q hP hC ad H locs ls hp hl hL ⟨hs.1, hs⟩)
theorem go_dup2 {P : PT} {M : MD} {pc : Nat} {L : List (Option Value)} {st : List Value} {h : Hp} {k n : Nat} {v w : Value} (hd : decode (mdB M) pc = .ok (.dup2, 1)) (hv : v.category = 1) (hw : w.category = 1) (K : Go P M (pc + 1) L (v :: w :: v :: w :: st) h k n) : Go P M pc L (v :: w :: st) h k n := by
  intro p l e s m args below meth c D ks sp ad0 n0 A Q hP hC ad H locs ls hp hl hL hs
  exact lv_dup2_11 hC.1 hC.2.1 hd ((tv_cat sp ad v).trans hv) ((tv_cat sp ad w).trans hw) (K p l e s m args below meth c D ks sp ad0 n0 A Q hP hC ad H locs ls hp hl hL ⟨hs.1, hs.2.1, hs⟩)
theorem go_pop {P : PT} {M : MD} {pc : Nat} {L : List (Option Value)} {st : List Value} {h : Hp} {k n : Nat} {v : Value} (hd : decode (mdB M) pc = .ok (.pop, 1)) (hv : v.category = 1) (K : Go P M (pc + 1) L st h k n) : Go P M pc L (v :: st) h k n := by
  intro p l e s m args below meth c D ks sp ad0 n0 A Q hP hC ad H locs ls hp hl hL hs
  exact lv_pop hC.1 hC.2.1 hd ((tv_cat sp ad v).trans hv) (K p l e s m args below meth c D ks sp ad0 n0 A Q hP hC ad H locs ls hp hl hL hs.2)
theorem go_if_eq {P : PT} {M : MD} {pc : Nat} {L : List (Option Value)} {st : List Value} {h : Hp} {k n : Nat} {x : Int32} {off : Int} {tgt : Nat} {β : Type} {a b : Option β} {o : β} (hd : decode (mdB M) pc = .ok (.ifCond .eq off, 3)) (ht : (pc : Int) + off = (tgt : Int)) (H : (if x = 0 then a else b) = some o) (kt : a = some o → Go P M tgt L st h k n) (kf : b = some o → Go P M (pc + 3) L st h k n) : Go P M pc L (.int x :: st) h k n := by
  intro p l e s m args below meth c D ks sp ad0 n0 A Q hP hC ad H1 locs ls hp hl hL hs
  refine lv_if_eq hC.1 hC.2.1 hd ht (fun q => ?_) (fun q => ?_)
  · rw [if_pos q] at H
    exact kt H p l e s m args below meth c D ks sp ad0 n0 A Q hP hC ad H1 locs ls hp hl hL hs.2
  · rw [if_neg q] at H
    exact kf H p l e s m args below meth c D ks sp ad0 n0 A Q hP hC ad H1 locs ls hp hl hL hs.2
theorem go_icmp_eq {P : PT} {M : MD} {pc : Nat} {L : List (Option Value)} {st : List Value} {h : Hp} {k n : Nat} {x y : Int32} {off : Int} {tgt : Nat} {β : Type} {a b : Option β} {o : β} (hd : decode (mdB M) pc = .ok (.if_icmp .eq off, 3)) (ht : (pc : Int) + off = (tgt : Int)) (H : (if x = y then a else b) = some o) (kt : a = some o → Go P M tgt L st h k n) (kf : b = some o → Go P M (pc + 3) L st h k n) : Go P M pc L (.int y :: .int x :: st) h k n := by
  intro p l e s m args below meth c D ks sp ad0 n0 A Q hP hC ad H1 locs ls hp hl hL hs
  refine lv_icmp_eq hC.1 hC.2.1 hd ht (fun q => ?_) (fun q => ?_)
  · rw [if_pos q] at H
    exact kt H p l e s m args below meth c D ks sp ad0 n0 A Q hP hC ad H1 locs ls hp hl hL hs.2.2
  · rw [if_neg q] at H
    exact kf H p l e s m args below meth c D ks sp ad0 n0 A Q hP hC ad H1 locs ls hp hl hL hs.2.2
theorem go_if_ne {P : PT} {M : MD} {pc : Nat} {L : List (Option Value)} {st : List Value} {h : Hp} {k n : Nat} {x : Int32} {off : Int} {tgt : Nat} {β : Type} {a b : Option β} {o : β} (hd : decode (mdB M) pc = .ok (.ifCond .ne off, 3)) (ht : (pc : Int) + off = (tgt : Int)) (H : (if x = 0 then b else a) = some o) (kt : a = some o → Go P M tgt L st h k n) (kf : b = some o → Go P M (pc + 3) L st h k n) : Go P M pc L (.int x :: st) h k n := by
  intro p l e s m args below meth c D ks sp ad0 n0 A Q hP hC ad H1 locs ls hp hl hL hs
  refine lv_if_ne hC.1 hC.2.1 hd ht (fun q => ?_) (fun q => ?_)
  · rw [if_neg q] at H
    exact kt H p l e s m args below meth c D ks sp ad0 n0 A Q hP hC ad H1 locs ls hp hl hL hs.2
  · rw [if_pos q] at H
    exact kf H p l e s m args below meth c D ks sp ad0 n0 A Q hP hC ad H1 locs ls hp hl hL hs.2
theorem go_icmp_ne {P : PT} {M : MD} {pc : Nat} {L : List (Option Value)} {st : List Value} {h : Hp} {k n : Nat} {x y : Int32} {off : Int} {tgt : Nat} {β : Type} {a b : Option β} {o : β} (hd : decode (mdB M) pc = .ok (.if_icmp .ne off, 3)) (ht : (pc : Int) + off = (tgt : Int)) (H : (if x = y then b else a) = some o) (kt : a = some o → Go P M tgt L st h k n) (kf : b = some o → Go P M (pc + 3) L st h k n) : Go P M pc L (.int y :: .int x :: st) h k n := by
  intro p l e s m args below meth c D ks sp ad0 n0 A Q hP hC ad H1 locs ls hp hl hL hs
  refine lv_icmp_ne hC.1 hC.2.1 hd ht (fun q => ?_) (fun q => ?_)
  · rw [if_neg q] at H
    exact kt H p l e s m args below meth c D ks sp ad0 n0 A Q hP hC ad H1 locs ls hp hl hL hs.2.2
  · rw [if_pos q] at H
    exact kf H p l e s m args below meth c D ks sp ad0 n0 A Q hP hC ad H1 locs ls hp hl hL hs.2.2
theorem go_if_lt {P : PT} {M : MD} {pc : Nat} {L : List (Option Value)} {st : List Value} {h : Hp} {k n : Nat} {x : Int32} {off : Int} {tgt : Nat} {β : Type} {a b : Option β} {o : β} (hd : decode (mdB M) pc = .ok (.ifCond .lt off, 3)) (ht : (pc : Int) + off = (tgt : Int)) (H : (if x < 0 then a else b) = some o) (kt : a = some o → Go P M tgt L st h k n) (kf : b = some o → Go P M (pc + 3) L st h k n) : Go P M pc L (.int x :: st) h k n := by
  intro p l e s m args below meth c D ks sp ad0 n0 A Q hP hC ad H1 locs ls hp hl hL hs
  refine lv_if_lt hC.1 hC.2.1 hd ht (fun q => ?_) (fun q => ?_)
  · rw [if_pos q] at H
    exact kt H p l e s m args below meth c D ks sp ad0 n0 A Q hP hC ad H1 locs ls hp hl hL hs.2
  · rw [if_neg q] at H
    exact kf H p l e s m args below meth c D ks sp ad0 n0 A Q hP hC ad H1 locs ls hp hl hL hs.2
theorem go_icmp_lt {P : PT} {M : MD} {pc : Nat} {L : List (Option Value)} {st : List Value} {h : Hp} {k n : Nat} {x y : Int32} {off : Int} {tgt : Nat} {β : Type} {a b : Option β} {o : β} (hd : decode (mdB M) pc = .ok (.if_icmp .lt off, 3)) (ht : (pc : Int) + off = (tgt : Int)) (H : (if x < y then a else b) = some o) (kt : a = some o → Go P M tgt L st h k n) (kf : b = some o → Go P M (pc + 3) L st h k n) : Go P M pc L (.int y :: .int x :: st) h k n := by
  intro p l e s m args below meth c D ks sp ad0 n0 A Q hP hC ad H1 locs ls hp hl hL hs
  refine lv_icmp_lt hC.1 hC.2.1 hd ht (fun q => ?_) (fun q => ?_)
  · rw [if_pos q] at H
    exact kt H p l e s m args below meth c D ks sp ad0 n0 A Q hP hC ad H1 locs ls hp hl hL hs.2.2
  · rw [if_neg q] at H
    exact kf H p l e s m args below meth c D ks sp ad0 n0 A Q hP hC ad H1 locs ls hp hl hL hs.2.2
theorem go_if_ge {P : PT} {M : MD} {pc : Nat} {L : List (Option Value)} {st : List Value} {h : Hp} {k n : Nat} {x : Int32} {off : Int} {tgt : Nat} {β : Type} {a b : Option β} {o : β} (hd : decode (mdB M) pc = .ok (.ifCond .ge off, 3)) (ht : (pc : Int) + off = (tgt : Int)) (H : (if 0 ≤ x then a else b) = some o) (kt : a = some o → Go P M tgt L st h k n) (kf : b = some o → Go P M (pc + 3) L st h k n) : Go P M pc L (.int x :: st) h k n := by
  intro p l e s m args below meth c D ks sp ad0 n0 A Q hP hC ad H1 locs ls hp hl hL hs
  refine lv_if_ge hC.1 hC.2.1 hd ht (fun q => ?_) (fun q => ?_)
  · rw [if_pos q] at H
    exact kt H p l e s m args below meth c D ks sp ad0 n0 A Q hP hC ad H1 locs ls hp hl hL hs.2
  · rw [if_neg q] at H
    exact kf H p l e s m args below meth c D ks sp ad0 n0 A Q hP hC ad H1 locs ls hp hl hL hs.2
theorem go_icmp_ge {P : PT} {M : MD} {pc : Nat} {L : List (Option Value)} {st : List Value} {h : Hp} {k n : Nat} {x y : Int32} {off : Int} {tgt : Nat} {β : Type} {a b : Option β} {o : β} (hd : decode (mdB M) pc = .ok (.if_icmp .ge off, 3)) (ht : (pc : Int) + off = (tgt : Int)) (H : (if y ≤ x then a else b) = some o) (kt : a = some o → Go P M tgt L st h k n) (kf : b = some o → Go P M (pc + 3) L st h k n) : Go P M pc L (.int y :: .int x :: st) h k n := by
  intro p l e s m args below meth c D ks sp ad0 n0 A Q hP hC ad H1 locs ls hp hl hL hs
  refine lv_icmp_ge hC.1 hC.2.1 hd ht (fun q => ?_) (fun q => ?_)
  · rw [if_pos q] at H
    exact kt H p l e s m args below meth c D ks sp ad0 n0 A Q hP hC ad H1 locs ls hp hl hL hs.2.2
  · rw [if_neg q] at H
    exact kf H p l e s m args below meth c D ks sp ad0 n0 A Q hP hC ad H1 locs ls hp hl hL hs.2.2
theorem go_if_gt {P : PT} {M : MD} {pc : Nat} {L : List (Option Value)} {st : List Value} {h : Hp} {k n : Nat} {x : Int32} {off : Int} {tgt : Nat} {β : Type} {a b : Option β} {o : β} (hd : decode (mdB M) pc = .ok (.ifCond .gt off, 3)) (ht : (pc : Int) + off = (tgt : Int)) (H : (if 0 < x then a else b) = some o) (kt : a = some o → Go P M tgt L st h k n) (kf : b = some o → Go P M (pc + 3) L st h k n) : Go P M pc L (.int x :: st) h k n := by
  intro p l e s m args below meth c D ks sp ad0 n0 A Q hP hC ad H1 locs ls hp hl hL hs
  refine lv_if_gt hC.1 hC.2.1 hd ht (fun q => ?_) (fun q => ?_)
  · rw [if_pos q] at H
    exact kt H p l e s m args below meth c D ks sp ad0 n0 A Q hP hC ad H1 locs ls hp hl hL hs.2
  · rw [if_neg q] at H
    exact kf H p l e s m args below meth c D ks sp ad0 n0 A Q hP hC ad H1 locs ls hp hl hL hs.2
theorem go_icmp_gt {P : PT} {M : MD} {pc : Nat} {L : List (Option Value)} {st : List Value} {h : Hp} {k n : Nat} {x y : Int32} {off : Int} {tgt : Nat} {β : Type} {a b : Option β} {o : β} (hd : decode (mdB M) pc = .ok (.if_icmp .gt off, 3)) (ht : (pc : Int) + off = (tgt : Int)) (H : (if y < x then a else b) = some o) (kt : a = some o → Go P M tgt L st h k n) (kf : b = some o → Go P M (pc + 3) L st h k n) : Go P M pc L (.int y :: .int x :: st) h k n := by
  intro p l e s m args below meth c D ks sp ad0 n0 A Q hP hC ad H1 locs ls hp hl hL hs
  refine lv_icmp_gt hC.1 hC.2.1 hd ht (fun q => ?_) (fun q => ?_)
  · rw [if_pos q] at H
    exact kt H p l e s m args below meth c D ks sp ad0 n0 A Q hP hC ad H1 locs ls hp hl hL hs.2.2
  · rw [if_neg q] at H
    exact kf H p l e s m args below meth c D ks sp ad0 n0 A Q hP hC ad H1 locs ls hp hl hL hs.2.2
theorem go_if_le {P : PT} {M : MD} {pc : Nat} {L : List (Option Value)} {st : List Value} {h : Hp} {k n : Nat} {x : Int32} {off : Int} {tgt : Nat} {β : Type} {a b : Option β} {o : β} (hd : decode (mdB M) pc = .ok (.ifCond .le off, 3)) (ht : (pc : Int) + off = (tgt : Int)) (H : (if x ≤ 0 then a else b) = some o) (kt : a = some o → Go P M tgt L st h k n) (kf : b = some o → Go P M (pc + 3) L st h k n) : Go P M pc L (.int x :: st) h k n := by
  intro p l e s m args below meth c D ks sp ad0 n0 A Q hP hC ad H1 locs ls hp hl hL hs
  refine lv_if_le hC.1 hC.2.1 hd ht (fun q => ?_) (fun q => ?_)
  · rw [if_pos q] at H
    exact kt H p l e s m args below meth c D ks sp ad0 n0 A Q hP hC ad H1 locs ls hp hl hL hs.2
  · rw [if_neg q] at H
    exact kf H p l e s m args below meth c D ks sp ad0 n0 A Q hP hC ad H1 locs ls hp hl hL hs.2
theorem go_icmp_le {P : PT} {M : MD} {pc : Nat} {L : List (Option Value)} {st : List Value} {h : Hp} {k n : Nat} {x y : Int32} {off : Int} {tgt : Nat} {β : Type} {a b : Option β} {o : β} (hd : decode (mdB M) pc = .ok (.if_icmp .le off, 3)) (ht : (pc : Int) + off = (tgt : Int)) (H : (if x ≤ y then a else b) = some o) (kt : a = some o → Go P M tgt L st h k n) (kf : b = some o → Go P M (pc + 3) L st h k n) : Go P M pc L (.int y :: .int x :: st) h k n := by
  intro p l e s m args below meth c D ks sp ad0 n0 A Q hP hC ad H1 locs ls hp hl hL hs
  refine lv_icmp_le hC.1 hC.2.1 hd ht (fun q => ?_) (fun q => ?_)
  · rw [if_pos q] at H
    exact kt H p l e s m args below meth c D ks sp ad0 n0 A Q hP hC ad H1 locs ls hp hl hL hs.2.2
  · rw [if_neg q] at H
    exact kf H p l e s m args below meth c D ks sp ad0 n0 A Q hP hC ad H1 locs ls hp hl hL hs.2.2
theorem go_goto {P : PT} {M : MD} {pc : Nat} {L : List (Option Value)} {st : List Value} {h : Hp} {k n : Nat} {off : Int} {tgt : Nat} (hd : decode (mdB M) pc = .ok (.goto off, 3)) (ht : (pc : Int) + off = (tgt : Int)) (K : Go P M tgt L st h k n) : Go P M pc L st h k n := by
  intro p l e s m args below meth c D ks sp ad0 n0 A Q hP hC ad H locs ls hp hl hL hs
  exact lv_goto hC.1 hC.2.1 hd ht (K p l e s m args below meth c D ks sp ad0 n0 A Q hP hC ad H locs ls hp hl hL hs)
theorem go_ifnonnullR {P : PT} {M : MD} {pc : Nat} {L : List (Option Value)} {st : List Value} {h : Hp} {k n : Nat} {x : Nat} {off : Int} {tgt : Nat} (hd : decode (mdB M) pc = .ok (.ifnonnull off, 3)) (ht : (pc : Int) + off = (tgt : Int)) (K : Go P M tgt L st h k n) : Go P M pc L (.ref x :: st) h k n := by
  intro p l e s m args below meth c D ks sp ad0 n0 A Q hP hC ad H locs ls hp hl hL hs
  exact lv_ifnonnull hC.1 hC.2.1 hd ht (K p l e s m args below meth c D ks sp ad0 n0 A Q hP hC ad H locs ls hp hl hL hs.2)
theorem go_ifnullR {P : PT} {M : MD} {pc : Nat} {L : List (Option Value)} {st : List Value} {h : Hp} {k n : Nat} {x : Nat} {off : Int} (hd : decode (mdB M) pc = .ok (.ifnull off, 3)) (K : Go P M (pc + 3) L st h k n) : Go P M pc L (.ref x :: st) h k n := by
  intro p l e s m args below meth c D ks sp ad0 n0 A Q hP hC ad H locs ls hp hl hL hs
  exact lv_ifnull hC.1 hC.2.1 hd (K p l e s m args below meth c D ks sp ad0 n0 A Q hP hC ad H locs ls hp hl hL hs.2)
theorem go_ifnonnullN {P : PT} {M : MD} {pc : Nat} {L : List (Option Value)} {st : List Value} {h : Hp} {k n : Nat} {off : Int} (hd : decode (mdB M) pc = .ok (.ifnonnull off, 3)) (K : Go P M (pc + 3) L st h k n) : Go P M pc L (.null :: st) h k n := by
  intro p l e s m args below meth c D ks sp ad0 n0 A Q hP hC ad H locs ls hp hl hL hs
  exact lv_ifnonnullN hC.1 hC.2.1 hd (K p l e s m args below meth c D ks sp ad0 n0 A Q hP hC ad H locs ls hp hl hL hs.2)
theorem go_ifnullN {P : PT} {M : MD} {pc : Nat} {L : List (Option Value)} {st : List Value} {h : Hp} {k n : Nat} {off : Int} {tgt : Nat} (hd : decode (mdB M) pc = .ok (.ifnull off, 3)) (ht : (pc : Int) + off = (tgt : Int)) (K : Go P M tgt L st h k n) : Go P M pc L (.null :: st) h k n := by
  intro p l e s m args below meth c D ks sp ad0 n0 A Q hP hC ad H locs ls hp hl hL hs
  exact lv_ifnullN hC.1 hC.2.1 hd ht (K p l e s m args below meth c D ks sp ad0 n0 A Q hP hC ad H locs ls hp hl hL hs.2)
theorem go_tabOut {P : PT} {M : MD} {pc : Nat} {L : List (Option Value)} {st : List Value} {h : Hp} {k n : Nat} {dflt lo hi : Int} {offs : Array Int} {len : Nat} {x : Int32} {tgt : Nat} (hd : decode (mdB M) pc = .ok (.tableswitch dflt lo hi offs, len)) (hx : x.toInt < lo ∨ hi < x.toInt) (ht : (pc : Int) + dflt = (tgt : Int)) (K : Go P M tgt L st h k n) : Go P M pc L (.int x :: st) h k n := by
  intro p l e s m args below meth c D ks sp ad0 n0 A Q hP hC ad H locs ls hp hl hL hs
  exact lv_tableOut hC.1 hC.2.1 hd hx ht (K p l e s m args below meth c D ks sp ad0 n0 A Q hP hC ad H locs ls hp hl hL hs.2)
theorem go_tabIn {P : PT} {M : MD} {pc : Nat} {L : List (Option Value)} {st : List Value} {h : Hp} {k n : Nat} {dflt lo hi : Int} {offs : Array Int} {len : Nat} {x : Int32} {off : Int} {tgt : Nat} (hd : decode (mdB M) pc = .ok (.tableswitch dflt lo hi offs, len)) (h1 : ¬ x.toInt < lo) (h2 : ¬ hi < x.toInt) (ho : offs[(x.toInt - lo).toNat]? = some off) (ht : (pc : Int) + off = (tgt : Int)) (K : Go P M tgt L st h k n) : Go P M pc L (.int x :: st) h k n := by
  intro p l e s m args below meth c D ks sp ad0 n0 A Q hP hC ad H locs ls hp hl hL hs
  exact lv_tableIn hC.1 hC.2.1 hd h1 h2 ho ht (K p l e s m args below meth c D ks sp ad0 n0 A Q hP hC ad H locs ls hp hl hL hs.2)
