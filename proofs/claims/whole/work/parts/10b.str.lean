/-! String.length, String.charAt: written by wip/whole/gen/strs.py -/
theorem dJ0_length_8abf5_0 : decode cJ0_length_8abf5 0 = .ok (.aload_n 0, 1) := by decide +kernel
theorem dJ0_length_8abf5_1 : decode cJ0_length_8abf5 1 = .ok (.getfield 9, 3) := by decide +kernel
theorem dJ0_length_8abf5_4 : decode cJ0_length_8abf5 4 = .ok (.arraylength, 1) := by decide +kernel
theorem dJ0_length_8abf5_5 : decode cJ0_length_8abf5 5 = .ok (.aload_n 0, 1) := by decide +kernel
theorem dJ0_length_8abf5_6 : decode cJ0_length_8abf5 6 = .ok (.invokevirtual 335, 3) := by decide +kernel
theorem dJ0_length_8abf5_9 : decode cJ0_length_8abf5 9 = .ok (.ishr, 1) := by decide +kernel
theorem dJ0_length_8abf5_10 : decode cJ0_length_8abf5 10 = .ok (.ireturn, 1) := by decide +kernel
theorem dJ0_charAt_5068e_0 : decode cJ0_charAt_5068e 0 = .ok (.aload_n 0, 1) := by decide +kernel
theorem dJ0_charAt_5068e_1 : decode cJ0_charAt_5068e 1 = .ok (.invokevirtual 492, 3) := by decide +kernel
theorem dJ0_charAt_5068e_4 : decode cJ0_charAt_5068e 4 = .ok (.ifCond .eq 12, 3) := by decide +kernel
theorem dJ0_charAt_5068e_7 : decode cJ0_charAt_5068e 7 = .ok (.aload_n 0, 1) := by decide +kernel
theorem dJ0_charAt_5068e_8 : decode cJ0_charAt_5068e 8 = .ok (.getfield 9, 3) := by decide +kernel
theorem dJ0_charAt_5068e_11 : decode cJ0_charAt_5068e 11 = .ok (.iload_n 1, 1) := by decide +kernel
theorem dJ0_charAt_5068e_12 : decode cJ0_charAt_5068e 12 = .ok (.invokestatic 495, 3) := by decide +kernel
theorem dJ0_charAt_5068e_15 : decode cJ0_charAt_5068e 15 = .ok (.ireturn, 1) := by decide +kernel
theorem dJ0_charAt_5068e_16 : decode cJ0_charAt_5068e 16 = .ok (.aload_n 0, 1) := by decide +kernel
theorem dJ0_charAt_5068e_17 : decode cJ0_charAt_5068e 17 = .ok (.getfield 9, 3) := by decide +kernel
theorem dJ0_charAt_5068e_20 : decode cJ0_charAt_5068e 20 = .ok (.iload_n 1, 1) := by decide +kernel
theorem dJ0_charAt_5068e_21 : decode cJ0_charAt_5068e 21 = .ok (.invokestatic 498, 3) := by decide +kernel
theorem dJ0_charAt_5068e_24 : decode cJ0_charAt_5068e 24 = .ok (.ireturn, 1) := by decide +kernel
theorem dJ0_coder_7d493_0 : decode cJ0_coder_7d493 0 = .ok (.getstatic 38, 3) := by decide +kernel
theorem dJ0_coder_7d493_3 : decode cJ0_coder_7d493 3 = .ok (.ifCond .eq 10, 3) := by decide +kernel
theorem dJ0_coder_7d493_6 : decode cJ0_coder_7d493 6 = .ok (.aload_n 0, 1) := by decide +kernel
theorem dJ0_coder_7d493_7 : decode cJ0_coder_7d493 7 = .ok (.getfield 15, 3) := by decide +kernel
theorem dJ0_coder_7d493_10 : decode cJ0_coder_7d493 10 = .ok (.goto 4, 3) := by decide +kernel
theorem dJ0_coder_7d493_13 : decode cJ0_coder_7d493 13 = .ok (.iconst 1, 1) := by decide +kernel
theorem dJ0_coder_7d493_14 : decode cJ0_coder_7d493 14 = .ok (.ireturn, 1) := by decide +kernel
theorem dJ0_isLatin1_aae02_0 : decode cJ0_isLatin1_aae02 0 = .ok (.getstatic 38, 3) := by decide +kernel
theorem dJ0_isLatin1_aae02_3 : decode cJ0_isLatin1_aae02 3 = .ok (.ifCond .eq 14, 3) := by decide +kernel
theorem dJ0_isLatin1_aae02_6 : decode cJ0_isLatin1_aae02 6 = .ok (.aload_n 0, 1) := by decide +kernel
theorem dJ0_isLatin1_aae02_7 : decode cJ0_isLatin1_aae02 7 = .ok (.getfield 15, 3) := by decide +kernel
theorem dJ0_isLatin1_aae02_10 : decode cJ0_isLatin1_aae02 10 = .ok (.ifCond .ne 7, 3) := by decide +kernel
theorem dJ0_isLatin1_aae02_13 : decode cJ0_isLatin1_aae02 13 = .ok (.iconst 1, 1) := by decide +kernel
theorem dJ0_isLatin1_aae02_14 : decode cJ0_isLatin1_aae02 14 = .ok (.goto 4, 3) := by decide +kernel
theorem dJ0_isLatin1_aae02_17 : decode cJ0_isLatin1_aae02 17 = .ok (.iconst 0, 1) := by decide +kernel
theorem dJ0_isLatin1_aae02_18 : decode cJ0_isLatin1_aae02 18 = .ok (.ireturn, 1) := by decide +kernel
theorem dJ0_checkIndex_df160_0 : decode cJ0_checkIndex_df160 0 = .ok (.iload_n 0, 1) := by decide +kernel
theorem dJ0_checkIndex_df160_1 : decode cJ0_checkIndex_df160 1 = .ok (.iload_n 1, 1) := by decide +kernel
theorem dJ0_checkIndex_df160_2 : decode cJ0_checkIndex_df160 2 = .ok (.getstatic 1053, 3) := by decide +kernel
theorem dJ0_checkIndex_df160_5 : decode cJ0_checkIndex_df160 5 = .ok (.invokestatic 1059, 3) := by decide +kernel
theorem dJ0_checkIndex_df160_8 : decode cJ0_checkIndex_df160 8 = .ok (.pop, 1) := by decide +kernel
theorem dJ0_checkIndex_df160_9 : decode cJ0_checkIndex_df160 9 = .ok (.return_, 1) := by decide +kernel
theorem dJ1_charAt_3b067_0 : decode cJ1_charAt_3b067 0 = .ok (.iload_n 1, 1) := by decide +kernel
theorem dJ1_charAt_3b067_1 : decode cJ1_charAt_3b067 1 = .ok (.aload_n 0, 1) := by decide +kernel
theorem dJ1_charAt_3b067_2 : decode cJ1_charAt_3b067 2 = .ok (.arraylength, 1) := by decide +kernel
theorem dJ1_charAt_3b067_3 : decode cJ1_charAt_3b067 3 = .ok (.invokestatic 9, 3) := by decide +kernel
theorem dJ1_charAt_3b067_6 : decode cJ1_charAt_3b067 6 = .ok (.aload_n 0, 1) := by decide +kernel
theorem dJ1_charAt_3b067_7 : decode cJ1_charAt_3b067 7 = .ok (.iload_n 1, 1) := by decide +kernel
theorem dJ1_charAt_3b067_8 : decode cJ1_charAt_3b067 8 = .ok (.baload, 1) := by decide +kernel
theorem dJ1_charAt_3b067_9 : decode cJ1_charAt_3b067 9 = .ok (.sipush 255, 3) := by decide +kernel
theorem dJ1_charAt_3b067_12 : decode cJ1_charAt_3b067 12 = .ok (.iand, 1) := by decide +kernel
theorem dJ1_charAt_3b067_13 : decode cJ1_charAt_3b067 13 = .ok (.i2c, 1) := by decide +kernel
theorem dJ1_charAt_3b067_14 : decode cJ1_charAt_3b067 14 = .ok (.ireturn, 1) := by decide +kernel
theorem dJ3_checkIndex_8e157_0 : decode cJ3_checkIndex_8e157 0 = .ok (.iload_n 0, 1) := by decide +kernel
theorem dJ3_checkIndex_8e157_1 : decode cJ3_checkIndex_8e157 1 = .ok (.ifCond .lt 8, 3) := by decide +kernel
theorem dJ3_checkIndex_8e157_4 : decode cJ3_checkIndex_8e157 4 = .ok (.iload_n 0, 1) := by decide +kernel
theorem dJ3_checkIndex_8e157_5 : decode cJ3_checkIndex_8e157 5 = .ok (.iload_n 1, 1) := by decide +kernel
theorem dJ3_checkIndex_8e157_6 : decode cJ3_checkIndex_8e157 6 = .ok (.if_icmp .lt 10, 3) := by decide +kernel
theorem dJ3_checkIndex_8e157_9 : decode cJ3_checkIndex_8e157 9 = .ok (.aload_n 2, 1) := by decide +kernel
theorem dJ3_checkIndex_8e157_10 : decode cJ3_checkIndex_8e157 10 = .ok (.iload_n 0, 1) := by decide +kernel
theorem dJ3_checkIndex_8e157_11 : decode cJ3_checkIndex_8e157 11 = .ok (.iload_n 1, 1) := by decide +kernel
theorem dJ3_checkIndex_8e157_12 : decode cJ3_checkIndex_8e157 12 = .ok (.invokestatic 95, 3) := by decide +kernel
theorem dJ3_checkIndex_8e157_15 : decode cJ3_checkIndex_8e157 15 = .ok (.athrow, 1) := by decide +kernel
theorem dJ3_checkIndex_8e157_16 : decode cJ3_checkIndex_8e157 16 = .ok (.iload_n 0, 1) := by decide +kernel
theorem dJ3_checkIndex_8e157_17 : decode cJ3_checkIndex_8e157 17 = .ok (.ireturn, 1) := by decide +kernel
def M_coder : MD := (yJ0_coder_7d493, cJ0_coder_7d493, 1, (some .byte), 0, 0, 0, 0)
def M_slen : MD := (yJ0_length_8abf5, cJ0_length_8abf5, 1, (some .int), 1, 20, 0, 0)
def M_latin : MD := (yJ0_isLatin1_aae02, cJ0_isLatin1_aae02, 1, (some .boolean), 0, 0, 0, 0)
def M_pre : MD := (yJ3_checkIndex_8e157, cJ3_checkIndex_8e157, 3, (some .int), 0, 0, 0, 0)
def M_schk : MD := (yJ0_checkIndex_df160, cJ0_checkIndex_df160, 2, none, 1, 22, 0, 0)
def M_lat : MD := (yJ1_charAt_3b067, cJ1_charAt_3b067, 2, (some .char), 2, 43, 0, 0)
def M_sat : MD := (yJ0_charAt_5068e, cJ0_charAt_5068e, 2, (some .char), 3, 64, 0, 0)
section R
variable {P : PT} {M : MD} {pc : Nat} {L : List (Option Value)} {st : List Value} {h : Hp} {k n : Nat}
theorem go_sgetV {j idx : Nat} (hd : decode (mdB M) pc = .ok (.getfield idx, 3)) (hw : Cond.fieldLink (mdY M).cls idx "java/lang/String" "value" "[B" ∈ TB) (hj : j < 44) (K : Go P M (pc + 3) L (.retAddr (100 + j) :: st) h k n) : Go P M pc L (.retAddr j :: st) h k n := by
  intro p l e s m args below meth c D ks sp ad0 n0 A Q hP hC ad H1 locs ls hp hl hL hs
  exact vk_getf hC.1 hC.2.1 (hC.2.2.2.2.2.2.2.2.1.1.1 j hj).2.2.1 hp.2.2.1 hC.2.2.2.2.1 (hC.2.2.2.2.2.1 _ hw) (fun _ q => q) hd (K p l e s m args below meth c D ks sp ad0 n0 A Q hP hC ad H1 locs ls hp hl hL ⟨trivial, hs.2⟩)
theorem go_sgetC {j idx : Nat} (hd : decode (mdB M) pc = .ok (.getfield idx, 3)) (hw : Cond.fieldLink (mdY M).cls idx "java/lang/String" "coder" "B" ∈ TB) (hj : j < 44) (K : Go P M (pc + 3) L (.int 0 :: st) h k n) : Go P M pc L (.retAddr j :: st) h k n := by
  intro p l e s m args below meth c D ks sp ad0 n0 A Q hP hC ad H1 locs ls hp hl hL hs
  exact vk_getf hC.1 hC.2.1 (hC.2.2.2.2.2.2.2.2.1.1.1 j hj).2.1 hp.2.2.1 hC.2.2.2.2.1 (hC.2.2.2.2.2.1 _ hw) (fun _ q => q) hd (K p l e s m args below meth c D ks sp ad0 n0 A Q hP hC ad H1 locs ls hp hl hL ⟨trivial, hs.2⟩)
theorem go_stalen {j : Nat} (hd : decode (mdB M) pc = .ok (.arraylength, 1)) (hj : j < 44) (K : Go P M (pc + 1) L (.int (nI (strL j)) :: st) h k n) : Go P M pc L (.retAddr (100 + j) :: st) h k n := by
  intro p l e s m args below meth c D ks sp ad0 n0 A Q hP hC ad H1 locs ls hp hl hL hs
  exact va_tlen hC.1 hC.2.1 (hC.2.2.2.2.2.2.2.2.1.1.1 j hj).2.2.2 hp.2.2.1 rfl hd (K p l e s m args below meth c D ks sp ad0 n0 A Q hP hC ad H1 locs ls hp hl hL ⟨trivial, hs.2⟩)
theorem go_stald {j : Nat} {i : Int32} (hd : decode (mdB M) pc = .ok (.baload, 1)) (hj : j < 44) (hi : vp_in i (strL j)) (K : Go P M (pc + 1) L (.int (strB j i.toNatClampNeg) :: st) h k n) : Go P M pc L (.int i :: .retAddr (100 + j) :: st) h k n := by
  intro p l e s m args below meth c D ks sp ad0 n0 A Q hP hC ad H1 locs ls hp hl hL hs
  exact va_tb hC.1 hC.2.1 (hC.2.2.2.2.2.2.2.2.1.1.1 j hj).2.2.2 hp.2.2.1 hi rfl hd (K p l e s m args below meth c D ks sp ad0 n0 A Q hP hC ad H1 locs ls hp hl hL ⟨trivial, hs.2.2⟩)
theorem go_gsC {idx : Nat} (hd : decode (mdB M) pc = .ok (.getstatic idx, 3)) (hw : Cond.fieldLink (mdY M).cls idx "java/lang/String" "COMPACT_STRINGS" "Z" ∈ TB) (K : Go P M (pc + 3) L (.int 1 :: st) h k n) : Go P M pc L st h k n := by
  intro p l e s m args below meth c D ks sp ad0 n0 A Q hP hC ad H1 locs ls hp hl hL hs
  exact va_gets hC.1 hC.2.1 hC.2.2.2.2.2.2.2.2.1.1.2.1 hp.2.2.1 hC.2.2.2.2.1 (hC.2.2.2.2.2.1 _ hw) (fun _ q => q) hd (K p l e s m args below meth c D ks sp ad0 n0 A Q hP hC ad H1 locs ls hp hl hL ⟨trivial, hs⟩)
theorem go_gsF {idx : Nat} (hd : decode (mdB M) pc = .ok (.getstatic idx, 3)) (hw : Cond.fieldLink (mdY M).cls idx "jdk/internal/util/Preconditions" "SIOOBE_FORMATTER" "Ljava/util/function/BiFunction;" ∈ TB) (K : ∀ v : Value, v = .null ∨ v = .retAddr 200 → Go P M (pc + 3) L (v :: st) h k n) : Go P M pc L st h k n := by
  intro p l e s m args below meth c D ks sp ad0 n0 A Q hP hC ad H1 locs ls hp hl hL hs
  rcases hC.2.2.2.2.2.2.2.2.1.1.2.2.1 with z | z
  · exact va_gets hC.1 hC.2.1 z hp.2.2.1 hC.2.2.2.2.1 (hC.2.2.2.2.2.1 _ hw) (fun _ q => q) hd (K .null (Or.inl rfl) p l e s m args below meth c D ks sp ad0 n0 A Q hP hC ad H1 locs ls hp hl hL ⟨trivial, hs⟩)
  · exact va_gets hC.1 hC.2.1 z hp.2.2.1 hC.2.2.2.2.1 (hC.2.2.2.2.2.1 _ hw) (fun _ q => q) hd (K (.retAddr 200) (Or.inr rfl) p l e s m args below meth c D ks sp ad0 n0 A Q hP hC ad H1 locs ls hp hl hL ⟨trivial, hs⟩)
theorem go_i2c {x : Int32} (hd : decode (mdB M) pc = .ok (.i2c, 1)) (K : Go P M (pc + 1) L (.int (x.toUInt32 % 65536).toInt32 :: st) h k n) : Go P M pc L (.int x :: st) h k n := by
  intro p l e s m args below meth c D ks sp ad0 n0 A Q hP hC ad H1 locs ls hp hl hL hs
  exact lv_i2c hC.1 hC.2.1 hd rfl (K p l e s m args below meth c D ks sp ad0 n0 A Q hP hC ad H1 locs ls hp hl hL ⟨trivial, hs.2⟩)
theorem go_nret {h0 : Hp} {x : Int32} {ty : FieldType} (hd : decode (mdB M) pc = .ok (.ireturn, 1)) (hr : mdR M = some ty) (hn : narrow ty (.int x) = .int x) (hk : k ≤ mdC M ∧ n ≤ mdS M) : Go (PM M h0 (some (.int x)) h) M pc L [.int x] h k n := by
  intro p l e s m args below meth c D ks sp ad0 n0 A Q hP hC ad H1 locs ls hp hl hL hs
  obtain ⟨rfl, hA, rfl⟩ := hP
  exact W.widen hk.1 hk.2 (W.zret hC.1 hC.2.1 (hC.2.2.2.1.trans hr) hn (end_q (p := p) (m := m) (meth := meth) (c := c) (r := some (.int x)) hA hp (fun v e => by cases e; exact hs.1)) hp.2.2.1.2.2 hd hC.2.2.2.2.2.2.2.2.2.1)
theorem go_cSt {Mz : MD} {as stk : List Value} {j idx np : Nat} {r : Option Value} {h' : Hp} (hd : decode (mdB M) pc = .ok (.invokevirtual idx, 3)) (hl0 : Cond.methodLink (mdY M).cls idx (mdY Mz) ∈ TB) (hz : CB Mz np ∧ Cond.instanceMethod (mdY Mz) ∈ TB ∧ Cond.selects "java/lang/String" (mdY Mz) (mdY Mz) ∈ TB) (hcon : Con Mz (.retAddr j :: as) h r h') (hst : as.reverse ++ .retAddr j :: st = stk) (hj : j < 44) (hn : as.length = np) (hR : RM M Mz) (hW : (st.map fun v => v.category).sum ≤ 8) (h0 : mdC Mz = 0 ∧ mdS Mz = 0) (hk : k ≤ mdC M ∧ n ≤ mdS M) (K : Go P M (pc + 3) L (r.toList ++ st) h' k n) : Go P M pc L stk h k n := by
  subst hst
  intro p l e s m args below meth c D ks sp ad0 n0 A Q hP hC ad H1 locs ls hp hl hL hs
  obtain ⟨ws1, ws2⟩ := wfs_app hs
  have wa := wfs_rev ws1
  obtain ⟨cell, z1, z2, z3, -⟩ := (hC.2.2.2.2.2.2.2.2.1.1.1 j hj).1.kept (H1 := H1) (fun a g1 g2 => hp.2.2.1.2.1 a g1 g2)
  refine run_go (Mz := Mz) (a' := (Value.ref (sp j) :: as.map (tv sp ad)).toArray) hP hC hp hl hL ws2.2 (va_runV (C := "java/lang/String") (As := as.map (tv sp ad)) (rest := st.map (tv sp ad)) ⟨hC.1, hC.2.1, hC.2.2.1, hC.2.2.2.2.1, hC.2.2.2.2.2.1⟩ (hcon l D ks sp ad H1.size hp.2.2.2.1 ⟨trivial, wa⟩) ⟨cb_call hz.1 hR hl0 hC.2.2.2.2.2.1, hC.2.2.2.2.2.1 _ hz.2.1, hC.2.2.2.2.2.1 _ hz.2.2⟩ ⟨pre_blind _ _ _ _ _ _ _, ⟨cell, z1, z2, z3⟩, fun U hU hWm => ⟨rfl, pre_pass hC hp hU hWm⟩⟩ rfl (by rw [List.length_map]; exact hn) hl.1 (rev_tv sp ad as (.retAddr j :: st)) (lv_room (by rw [cat_tv]; exact hW)) hd (by rw [h0.1, h0.2]; exact hk)) ?_
  rw [h0.1, h0.2]
  exact K
end R
theorem con_coder {j : Nat} (hj : j < 44) (h : Hp) : Con M_coder [.retAddr j] h (some (.int 0)) h := by
  refine con_of_go (by decide +kernel) 0 (L := [some (.retAddr j)]) rfl (Nat.le_of_ble_eq_true rfl) ?_
  refine go_gsC (pc := 0) dJ0_coder_7d493_0 wd_551 ?_
  refine go_if_eq (pc := 3) (tgt := 13) (a := none) (b := some ()) (o := ()) dJ0_coder_7d493_3 (by decide) (by decide) (fun H => by cases H) (fun _ => ?_)
  refine go_aload_nS (pc := 6) dJ0_coder_7d493_6 rfl rfl ?_
  refine go_sgetC (pc := 7) dJ0_coder_7d493_7 wd_2000 hj ?_
  refine go_goto (pc := 10) (tgt := 14) dJ0_coder_7d493_10 (by decide) ?_
  exact go_nret (pc := 14) dJ0_coder_7d493_14 rfl rfl ⟨Nat.le_of_ble_eq_true rfl, Nat.le_of_ble_eq_true rfl⟩
theorem con_slen {j : Nat} (hj : j < 44) (h : Hp) : Con M_slen [.retAddr j] h (some (.int (nI (strL j)))) h := by
  refine con_of_go (by decide +kernel) 0 (L := [some (.retAddr j)]) rfl (Nat.le_of_ble_eq_true rfl) ?_
  refine go_aload_nS (pc := 0) dJ0_length_8abf5_0 rfl rfl ?_
  refine go_sgetV (pc := 1) dJ0_length_8abf5_1 wd_1999 hj ?_
  refine go_stalen (pc := 4) dJ0_length_8abf5_4 hj ?_
  refine go_aload_nS (pc := 5) dJ0_length_8abf5_5 rfl rfl ?_
  refine go_cSt (pc := 6) (Mz := M_coder) (as := []) (st := [.int (nI (strL j))]) (r := some (.int 0)) (h' := h) dJ0_length_8abf5_6 wd_547 ⟨⟨wd_550, wd_122, ⟨by decide, by decide⟩, by decide +kernel⟩, wd_548, wd_549⟩ (con_coder hj h) rfl hj rfl ⟨Nat.le_of_ble_eq_true rfl, Nat.le_of_ble_eq_true rfl⟩ (Nat.le_of_ble_eq_true rfl) ⟨rfl, rfl⟩ ⟨Nat.le_of_ble_eq_true rfl, Nat.le_of_ble_eq_true rfl⟩ ?_
  refine go_ishr (pc := 9) dJ0_length_8abf5_9 ?_
  have e : nI (strL j) >>> ((0 : Int32) &&& 31) = nI (strL j) := by
    have : ∀ x : Int32, x >>> ((0 : Int32) &&& 31) = x := fun x => by
      apply Int32.toBitVec_inj.mp
      simp
    exact this _
  rw [e]
  exact go_iret (pc := 10) (x := nI (strL j)) dJ0_length_8abf5_10 rfl ⟨Nat.le_of_ble_eq_true rfl, Nat.le_of_ble_eq_true rfl⟩ rfl
theorem con_latin {j : Nat} (hj : j < 44) (h : Hp) : Con M_latin [.retAddr j] h (some (.int 1)) h := by
  refine con_of_go (by decide +kernel) 0 (L := [some (.retAddr j)]) rfl (Nat.le_of_ble_eq_true rfl) ?_
  refine go_gsC (pc := 0) dJ0_isLatin1_aae02_0 wd_551 ?_
  refine go_if_eq (pc := 3) (tgt := 17) (a := none) (b := some ()) (o := ()) dJ0_isLatin1_aae02_3 (by decide) (by decide) (fun H => by cases H) (fun _ => ?_)
  refine go_aload_nS (pc := 6) dJ0_isLatin1_aae02_6 rfl rfl ?_
  refine go_sgetC (pc := 7) dJ0_isLatin1_aae02_7 wd_2000 hj ?_
  refine go_if_ne (pc := 10) (tgt := 17) (a := none) (b := some ()) (o := ()) dJ0_isLatin1_aae02_10 (by decide) (by decide) (fun H => by cases H) (fun _ => ?_)
  refine go_iconst (pc := 13) (v := 1) dJ0_isLatin1_aae02_13 (by decide) ?_
  refine go_goto (pc := 14) (tgt := 18) dJ0_isLatin1_aae02_14 (by decide) ?_
  exact go_nret (pc := 18) dJ0_isLatin1_aae02_18 rfl rfl ⟨Nat.le_of_ble_eq_true rfl, Nat.le_of_ble_eq_true rfl⟩
theorem con_pre {i m : Int32} (h0 : ¬ i < 0) (h1 : i < m) (v : Value) (hv : v = .null ∨ v = .retAddr 200) (h : Hp) : Con M_pre [.int i, .int m, v] h (some (.int i)) h := by
  have hc : v.category = 1 := by rcases hv with rfl | rfl <;> rfl
  refine con_of_go (by decide +kernel) 0 (L := [some (.int i), some (.int m), some v]) (by rcases hv with rfl | rfl <;> rfl) (by rcases hv with rfl | rfl <;> exact (Nat.le_of_ble_eq_true rfl)) ?_
  refine go_iload_n (pc := 0) dJ3_checkIndex_8e157_0 rfl rfl ?_
  refine go_if_lt (pc := 1) (tgt := 9) (a := none) (b := some ()) (o := ()) dJ3_checkIndex_8e157_1 (by decide) (by rw [if_neg h0]) (fun H => by cases H) (fun _ => ?_)
  refine go_iload_n (pc := 4) dJ3_checkIndex_8e157_4 rfl rfl ?_
  refine go_iload_n (pc := 5) dJ3_checkIndex_8e157_5 rfl rfl ?_
  refine go_icmp_lt (pc := 6) (tgt := 16) (a := some ()) (b := none) (o := ()) dJ3_checkIndex_8e157_6 (by decide) (by rw [if_pos h1]) (fun _ => ?_) (fun H => by cases H)
  refine go_iload_n (pc := 16) dJ3_checkIndex_8e157_16 rfl rfl ?_
  exact go_iret (pc := 17) (x := i) dJ3_checkIndex_8e157_17 rfl ⟨Nat.le_of_ble_eq_true rfl, Nat.le_of_ble_eq_true rfl⟩ rfl
theorem con_schk {i m : Int32} (h0 : ¬ i < 0) (h1 : i < m) (h : Hp) : Con M_schk [.int i, .int m] h none h := by
  refine con_of_go (by decide +kernel) 0 (L := [some (.int i), some (.int m)]) rfl (Nat.le_of_ble_eq_true rfl) ?_
  refine go_iload_n (pc := 0) dJ0_checkIndex_df160_0 rfl rfl ?_
  refine go_iload_n (pc := 1) dJ0_checkIndex_df160_1 rfl rfl ?_
  refine go_gsF (pc := 2) dJ0_checkIndex_df160_2 wd_567 (fun v hv => ?_)
  refine go_cSi (pc := 5) (np := 3) (Mz := M_pre) (as := [.int i, .int m, v]) (st := []) (o1 := some (i, h)) (K' := fun _ h1 => some h1) (o := h) dJ0_checkIndex_df160_5 wd_569 ⟨⟨wd_571, wd_124, ⟨by decide, by decide⟩, by decide +kernel⟩, wd_570⟩ (fun e => by cases e; exact con_pre h0 h1 v hv h) rfl rfl ⟨Nat.le_of_ble_eq_true rfl, Nat.le_of_ble_eq_true rfl⟩ (Nat.le_of_ble_eq_true rfl) ⟨rfl, rfl⟩ ⟨Nat.le_of_ble_eq_true rfl, Nat.le_of_ble_eq_true rfl⟩ rfl (fun x h2 e => ?_)
  cases e
  refine go_pop (pc := 8) dJ0_checkIndex_df160_8 rfl ?_
  exact go_vret (pc := 9) dJ0_checkIndex_df160_9 rfl ⟨Nat.le_of_ble_eq_true rfl, Nat.le_of_ble_eq_true rfl⟩ rfl
theorem str_in {j : Nat} {i : Int32} (hi : ¬ (i < 0 ∨ strL j ≤ i.toNatClampNeg)) : i < nI (strL j) := by
  have hL : strL j < 2 ^ 31 := by
    have hq : ∀ q, q < 22 → (strT.getD q []).length < 20 := by decide
    have := hq (j % 22) (Nat.mod_lt _ (by decide))
    unfold strL
    omega
  obtain ⟨t, ht, rfl⟩ := vp_in_of (n := strL j) hi hL
  exact nI_lt ht hL
theorem str_ch (j q : Nat) : ((strB j q &&& 255).toUInt32 % 65536).toInt32 = strB j q := by
  have hq : ∀ a, a < 22 → ∀ b, b < 20 → ((nI ((strT.getD a []).getD b 0) &&& 255).toUInt32 % 65536).toInt32 = nI ((strT.getD a []).getD b 0) := by decide +kernel
  have hl : ∀ a, a < 22 → (strT.getD a []).length ≤ 20 := by decide
  unfold strB
  by_cases hb : q < 20
  · exact hq _ (Nat.mod_lt _ (by decide)) q hb
  · have : (strT.getD (j % 22) []).getD q 0 = 0 := by
      rw [List.getD_eq_getElem?_getD, List.getElem?_eq_none (by have := hl (j % 22) (Nat.mod_lt _ (by decide)); omega)]
      rfl
    rw [this]
    decide
theorem str_nr (j q : Nat) : narrow .char (.int (strB j q)) = .int (strB j q) := by
  have := str_ch j q
  rw [← this]
  exact pk_nc _
theorem con_lat {j : Nat} {i : Int32} (hj : j < 44) (hi : ¬ (i < 0 ∨ strL j ≤ i.toNatClampNeg)) (h : Hp) : Con M_lat [.retAddr (100 + j), .int i] h (some (.int (strB j i.toNatClampNeg))) h := by
  refine con_of_go (by decide +kernel) 0 (L := [some (.retAddr (100 + j)), some (.int i)]) rfl (Nat.le_of_ble_eq_true rfl) ?_
  refine go_iload_n (pc := 0) dJ1_charAt_3b067_0 rfl rfl ?_
  refine go_aload_nS (pc := 1) dJ1_charAt_3b067_1 rfl rfl ?_
  refine go_stalen (pc := 2) dJ1_charAt_3b067_2 hj ?_
  refine go_cSv (pc := 3) (np := 2) (Mz := M_schk) (as := [.int i, .int (nI (strL j))]) (st := []) (o1 := some h) (K' := fun h1 => some h1) (o := h) dJ1_charAt_3b067_3 wd_564 ⟨⟨wd_566, wd_122, ⟨by decide, by decide⟩, by decide +kernel⟩, wd_565⟩ (fun e => by cases e; exact con_schk (fun q => hi (Or.inl q)) (str_in hi) h) rfl rfl ⟨Nat.le_of_ble_eq_true rfl, Nat.le_of_ble_eq_true rfl⟩ (Nat.le_of_ble_eq_true rfl) ⟨rfl, rfl⟩ ⟨Nat.le_of_ble_eq_true rfl, Nat.le_of_ble_eq_true rfl⟩ rfl (fun h2 e => ?_)
  cases e
  refine go_aload_nS (pc := 6) dJ1_charAt_3b067_6 rfl rfl ?_
  refine go_iload_n (pc := 7) dJ1_charAt_3b067_7 rfl rfl ?_
  refine go_stald (pc := 8) dJ1_charAt_3b067_8 hj hi ?_
  refine go_sipush (pc := 9) (v := 255) dJ1_charAt_3b067_9 (by decide) ?_
  refine go_iand (pc := 12) dJ1_charAt_3b067_12 ?_
  refine go_i2c (pc := 13) dJ1_charAt_3b067_13 ?_
  rw [str_ch]
  exact go_nret (pc := 14) dJ1_charAt_3b067_14 rfl (str_nr _ _) ⟨Nat.le_of_ble_eq_true rfl, Nat.le_of_ble_eq_true rfl⟩
theorem con_sat {j : Nat} {i : Int32} (hj : j < 44) (hi : ¬ (i < 0 ∨ strL j ≤ i.toNatClampNeg)) (h : Hp) : Con M_sat [.retAddr j, .int i] h (some (.int (strB j i.toNatClampNeg))) h := by
  refine con_of_go (by decide +kernel) 0 (L := [some (.retAddr j), some (.int i)]) rfl (Nat.le_of_ble_eq_true rfl) ?_
  refine go_aload_nS (pc := 0) dJ0_charAt_5068e_0 rfl rfl ?_
  refine go_cSt (pc := 1) (Mz := M_latin) (as := []) (st := []) (r := some (.int 1)) (h' := h) dJ0_charAt_5068e_1 wd_557 ⟨⟨wd_560, wd_122, ⟨by decide, by decide⟩, by decide +kernel⟩, wd_558, wd_559⟩ (con_latin hj h) rfl hj rfl ⟨Nat.le_of_ble_eq_true rfl, Nat.le_of_ble_eq_true rfl⟩ (Nat.le_of_ble_eq_true rfl) ⟨rfl, rfl⟩ ⟨Nat.le_of_ble_eq_true rfl, Nat.le_of_ble_eq_true rfl⟩ ?_
  refine go_if_eq (pc := 4) (tgt := 16) (a := none) (b := some ()) (o := ()) dJ0_charAt_5068e_4 (by decide) (by decide) (fun H => by cases H) (fun _ => ?_)
  refine go_aload_nS (pc := 7) dJ0_charAt_5068e_7 rfl rfl ?_
  refine go_sgetV (pc := 8) dJ0_charAt_5068e_8 wd_1999 hj ?_
  refine go_iload_n (pc := 11) dJ0_charAt_5068e_11 rfl rfl ?_
  refine go_cSi (pc := 12) (np := 2) (Mz := M_lat) (as := [.retAddr (100 + j), .int i]) (st := []) (o1 := some (strB j i.toNatClampNeg, h)) (K' := fun x h1 => some (x, h1)) (o := (strB j i.toNatClampNeg, h)) dJ0_charAt_5068e_12 wd_561 ⟨⟨wd_563, wd_123, ⟨by decide, by decide⟩, by decide +kernel⟩, wd_562⟩ (fun e => by cases e; exact con_lat hj hi h) rfl rfl ⟨Nat.le_of_ble_eq_true rfl, Nat.le_of_ble_eq_true rfl⟩ (Nat.le_of_ble_eq_true rfl) ⟨rfl, rfl⟩ ⟨Nat.le_of_ble_eq_true rfl, Nat.le_of_ble_eq_true rfl⟩ rfl (fun x h2 e => ?_)
  cases e
  exact go_nret (pc := 15) dJ0_charAt_5068e_15 rfl (str_nr _ _) ⟨Nat.le_of_ble_eq_true rfl, Nat.le_of_ble_eq_true rfl⟩
section R
variable {P : PT} {M : MD} {pc : Nat} {L : List (Option Value)} {st : List Value} {h : Hp} {k n : Nat}
theorem go_sLen {j idx : Nat} {β : Type} {K' : Int32 → Option β} {o : β} (hd : decode (mdB M) pc = .ok (.invokevirtual idx, 3)) (hw : Cond.methodLink (mdY M).cls idx yJ0_length_8abf5 ∈ TB) (hW : (st.map fun v => v.category).sum ≤ 8) (hR : 4 ≤ mdF M ∧ 85 ≤ mdO M) (hk : k ≤ mdC M ∧ n ≤ mdS M) (H : (sLen j).bind K' = some o) (K : ∀ x, K' x = some o → Go P M (pc + 3) L (.int x :: st) h k n) : Go P M pc L (.retAddr j :: st) h k n := by
  obtain ⟨x, e1, e2⟩ := bi_some H
  unfold sLen at e1
  split at e1
  · rename_i hj
    cases e1
    exact go_cSt (Mz := M_slen) (as := []) (r := some (.int (nI (strL j)))) (h' := h) hd hw ⟨⟨wd_546, wd_122, ⟨by decide, by decide⟩, by decide +kernel⟩, wd_544, wd_545⟩ (con_slen hj h) rfl hj rfl ⟨by show 1 + 1 ≤ mdF M; omega, by show 8 + (1 + 11) + 20 ≤ mdO M; omega⟩ hW ⟨rfl, rfl⟩ hk (K _ e2)
  · cases e1
theorem go_sAt {j idx : Nat} {i : Int32} {β : Type} {K' : Int32 → Option β} {o : β} (hd : decode (mdB M) pc = .ok (.invokevirtual idx, 3)) (hw : Cond.methodLink (mdY M).cls idx yJ0_charAt_5068e ∈ TB) (hW : (st.map fun v => v.category).sum ≤ 8) (hR : 4 ≤ mdF M ∧ 85 ≤ mdO M) (hk : k ≤ mdC M ∧ n ≤ mdS M) (H : (sAt j i).bind K' = some o) (K : ∀ x, K' x = some o → Go P M (pc + 3) L (.int x :: st) h k n) : Go P M pc L (.int i :: .retAddr j :: st) h k n := by
  obtain ⟨x, e1, e2⟩ := bi_some H
  unfold sAt at e1
  split at e1
  · rename_i hj
    cases e1
    exact go_cSt (np := 1) (Mz := M_sat) (as := [.int i]) (r := some (.int (strB j i.toNatClampNeg))) (h' := h) hd hw ⟨⟨wd_556, wd_122, ⟨by decide, by decide⟩, by decide +kernel⟩, wd_554, wd_555⟩ (con_sat hj.1 hj.2 h) rfl hj.1 rfl ⟨by show 3 + 1 ≤ mdF M; omega, by show 8 + (2 + 11) + 64 ≤ mdO M; omega⟩ hW ⟨rfl, rfl⟩ hk (K _ e2)
  · cases e1
end R
