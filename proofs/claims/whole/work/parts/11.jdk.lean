/-! 11.jdk: written by wip/whole/gen/all.py -/
theorem dJ6_bitCount_0f7a4_0 : decode cJ6_bitCount_0f7a4 0 = .ok (.iload_n 0, 1) := by decide +kernel
theorem dJ6_bitCount_0f7a4_1 : decode cJ6_bitCount_0f7a4 1 = .ok (.iload_n 0, 1) := by decide +kernel
theorem dJ6_bitCount_0f7a4_2 : decode cJ6_bitCount_0f7a4 2 = .ok (.iconst 1, 1) := by decide +kernel
theorem dJ6_bitCount_0f7a4_3 : decode cJ6_bitCount_0f7a4 3 = .ok (.iushr, 1) := by decide +kernel
theorem dJ6_bitCount_0f7a4_4 : decode cJ6_bitCount_0f7a4 4 = .ok (.ldc_w 265, 3) := by decide +kernel
theorem dJ6_bitCount_0f7a4_7 : decode cJ6_bitCount_0f7a4 7 = .ok (.iand, 1) := by decide +kernel
theorem dJ6_bitCount_0f7a4_8 : decode cJ6_bitCount_0f7a4 8 = .ok (.isub, 1) := by decide +kernel
theorem dJ6_bitCount_0f7a4_9 : decode cJ6_bitCount_0f7a4 9 = .ok (.istore_n 0, 1) := by decide +kernel
theorem dJ6_bitCount_0f7a4_10 : decode cJ6_bitCount_0f7a4 10 = .ok (.iload_n 0, 1) := by decide +kernel
theorem dJ6_bitCount_0f7a4_11 : decode cJ6_bitCount_0f7a4 11 = .ok (.ldc_w 266, 3) := by decide +kernel
theorem dJ6_bitCount_0f7a4_14 : decode cJ6_bitCount_0f7a4 14 = .ok (.iand, 1) := by decide +kernel
theorem dJ6_bitCount_0f7a4_15 : decode cJ6_bitCount_0f7a4 15 = .ok (.iload_n 0, 1) := by decide +kernel
theorem dJ6_bitCount_0f7a4_16 : decode cJ6_bitCount_0f7a4 16 = .ok (.iconst 2, 1) := by decide +kernel
theorem dJ6_bitCount_0f7a4_17 : decode cJ6_bitCount_0f7a4 17 = .ok (.iushr, 1) := by decide +kernel
theorem dJ6_bitCount_0f7a4_18 : decode cJ6_bitCount_0f7a4 18 = .ok (.ldc_w 266, 3) := by decide +kernel
theorem dJ6_bitCount_0f7a4_21 : decode cJ6_bitCount_0f7a4 21 = .ok (.iand, 1) := by decide +kernel
theorem dJ6_bitCount_0f7a4_22 : decode cJ6_bitCount_0f7a4 22 = .ok (.iadd, 1) := by decide +kernel
theorem dJ6_bitCount_0f7a4_23 : decode cJ6_bitCount_0f7a4 23 = .ok (.istore_n 0, 1) := by decide +kernel
theorem dJ6_bitCount_0f7a4_24 : decode cJ6_bitCount_0f7a4 24 = .ok (.iload_n 0, 1) := by decide +kernel
theorem dJ6_bitCount_0f7a4_25 : decode cJ6_bitCount_0f7a4 25 = .ok (.iload_n 0, 1) := by decide +kernel
theorem dJ6_bitCount_0f7a4_26 : decode cJ6_bitCount_0f7a4 26 = .ok (.iconst 4, 1) := by decide +kernel
theorem dJ6_bitCount_0f7a4_27 : decode cJ6_bitCount_0f7a4 27 = .ok (.iushr, 1) := by decide +kernel
theorem dJ6_bitCount_0f7a4_28 : decode cJ6_bitCount_0f7a4 28 = .ok (.iadd, 1) := by decide +kernel
theorem dJ6_bitCount_0f7a4_29 : decode cJ6_bitCount_0f7a4 29 = .ok (.ldc_w 267, 3) := by decide +kernel
theorem dJ6_bitCount_0f7a4_32 : decode cJ6_bitCount_0f7a4 32 = .ok (.iand, 1) := by decide +kernel
theorem dJ6_bitCount_0f7a4_33 : decode cJ6_bitCount_0f7a4 33 = .ok (.istore_n 0, 1) := by decide +kernel
theorem dJ6_bitCount_0f7a4_34 : decode cJ6_bitCount_0f7a4 34 = .ok (.iload_n 0, 1) := by decide +kernel
theorem dJ6_bitCount_0f7a4_35 : decode cJ6_bitCount_0f7a4 35 = .ok (.iload_n 0, 1) := by decide +kernel
theorem dJ6_bitCount_0f7a4_36 : decode cJ6_bitCount_0f7a4 36 = .ok (.bipush 8, 2) := by decide +kernel
theorem dJ6_bitCount_0f7a4_38 : decode cJ6_bitCount_0f7a4 38 = .ok (.iushr, 1) := by decide +kernel
theorem dJ6_bitCount_0f7a4_39 : decode cJ6_bitCount_0f7a4 39 = .ok (.iadd, 1) := by decide +kernel
theorem dJ6_bitCount_0f7a4_40 : decode cJ6_bitCount_0f7a4 40 = .ok (.istore_n 0, 1) := by decide +kernel
theorem dJ6_bitCount_0f7a4_41 : decode cJ6_bitCount_0f7a4 41 = .ok (.iload_n 0, 1) := by decide +kernel
theorem dJ6_bitCount_0f7a4_42 : decode cJ6_bitCount_0f7a4 42 = .ok (.iload_n 0, 1) := by decide +kernel
theorem dJ6_bitCount_0f7a4_43 : decode cJ6_bitCount_0f7a4 43 = .ok (.bipush 16, 2) := by decide +kernel
theorem dJ6_bitCount_0f7a4_45 : decode cJ6_bitCount_0f7a4 45 = .ok (.iushr, 1) := by decide +kernel
theorem dJ6_bitCount_0f7a4_46 : decode cJ6_bitCount_0f7a4 46 = .ok (.iadd, 1) := by decide +kernel
theorem dJ6_bitCount_0f7a4_47 : decode cJ6_bitCount_0f7a4 47 = .ok (.istore_n 0, 1) := by decide +kernel
theorem dJ6_bitCount_0f7a4_48 : decode cJ6_bitCount_0f7a4 48 = .ok (.iload_n 0, 1) := by decide +kernel
theorem dJ6_bitCount_0f7a4_49 : decode cJ6_bitCount_0f7a4 49 = .ok (.bipush 63, 2) := by decide +kernel
theorem dJ6_bitCount_0f7a4_51 : decode cJ6_bitCount_0f7a4 51 = .ok (.iand, 1) := by decide +kernel
theorem dJ6_bitCount_0f7a4_52 : decode cJ6_bitCount_0f7a4 52 = .ok (.ireturn, 1) := by decide +kernel
theorem dJ9_floorDiv_7cf53_0 : decode cJ9_floorDiv_7cf53 0 = .ok (.iload_n 0, 1) := by decide +kernel
theorem dJ9_floorDiv_7cf53_1 : decode cJ9_floorDiv_7cf53 1 = .ok (.iload_n 1, 1) := by decide +kernel
theorem dJ9_floorDiv_7cf53_2 : decode cJ9_floorDiv_7cf53 2 = .ok (.idiv, 1) := by decide +kernel
theorem dJ9_floorDiv_7cf53_3 : decode cJ9_floorDiv_7cf53 3 = .ok (.istore_n 2, 1) := by decide +kernel
theorem dJ9_floorDiv_7cf53_4 : decode cJ9_floorDiv_7cf53 4 = .ok (.iload_n 0, 1) := by decide +kernel
theorem dJ9_floorDiv_7cf53_5 : decode cJ9_floorDiv_7cf53 5 = .ok (.iload_n 1, 1) := by decide +kernel
theorem dJ9_floorDiv_7cf53_6 : decode cJ9_floorDiv_7cf53 6 = .ok (.ixor, 1) := by decide +kernel
theorem dJ9_floorDiv_7cf53_7 : decode cJ9_floorDiv_7cf53 7 = .ok (.ifCond .ge 14, 3) := by decide +kernel
theorem dJ9_floorDiv_7cf53_10 : decode cJ9_floorDiv_7cf53 10 = .ok (.iload_n 2, 1) := by decide +kernel
theorem dJ9_floorDiv_7cf53_11 : decode cJ9_floorDiv_7cf53 11 = .ok (.iload_n 1, 1) := by decide +kernel
theorem dJ9_floorDiv_7cf53_12 : decode cJ9_floorDiv_7cf53 12 = .ok (.imul, 1) := by decide +kernel
theorem dJ9_floorDiv_7cf53_13 : decode cJ9_floorDiv_7cf53 13 = .ok (.iload_n 0, 1) := by decide +kernel
theorem dJ9_floorDiv_7cf53_14 : decode cJ9_floorDiv_7cf53 14 = .ok (.if_icmp .eq 7, 3) := by decide +kernel
theorem dJ9_floorDiv_7cf53_17 : decode cJ9_floorDiv_7cf53 17 = .ok (.iload_n 2, 1) := by decide +kernel
theorem dJ9_floorDiv_7cf53_18 : decode cJ9_floorDiv_7cf53 18 = .ok (.iconst 1, 1) := by decide +kernel
theorem dJ9_floorDiv_7cf53_19 : decode cJ9_floorDiv_7cf53 19 = .ok (.isub, 1) := by decide +kernel
theorem dJ9_floorDiv_7cf53_20 : decode cJ9_floorDiv_7cf53 20 = .ok (.ireturn, 1) := by decide +kernel
theorem dJ9_floorDiv_7cf53_21 : decode cJ9_floorDiv_7cf53 21 = .ok (.iload_n 2, 1) := by decide +kernel
theorem dJ9_floorDiv_7cf53_22 : decode cJ9_floorDiv_7cf53 22 = .ok (.ireturn, 1) := by decide +kernel
theorem dJ9_abs_0f7a4_0 : decode cJ9_abs_0f7a4 0 = .ok (.iload_n 0, 1) := by decide +kernel
theorem dJ9_abs_0f7a4_1 : decode cJ9_abs_0f7a4 1 = .ok (.ifCond .ge 8, 3) := by decide +kernel
theorem dJ9_abs_0f7a4_4 : decode cJ9_abs_0f7a4 4 = .ok (.iload_n 0, 1) := by decide +kernel
theorem dJ9_abs_0f7a4_5 : decode cJ9_abs_0f7a4 5 = .ok (.ineg, 1) := by decide +kernel
theorem dJ9_abs_0f7a4_6 : decode cJ9_abs_0f7a4 6 = .ok (.goto 4, 3) := by decide +kernel
theorem dJ9_abs_0f7a4_9 : decode cJ9_abs_0f7a4 9 = .ok (.iload_n 0, 1) := by decide +kernel
theorem dJ9_abs_0f7a4_10 : decode cJ9_abs_0f7a4 10 = .ok (.ireturn, 1) := by decide +kernel
theorem dJ9_max_7cf53_0 : decode cJ9_max_7cf53 0 = .ok (.iload_n 0, 1) := by decide +kernel
theorem dJ9_max_7cf53_1 : decode cJ9_max_7cf53 1 = .ok (.iload_n 1, 1) := by decide +kernel
theorem dJ9_max_7cf53_2 : decode cJ9_max_7cf53 2 = .ok (.if_icmp .lt 7, 3) := by decide +kernel
theorem dJ9_max_7cf53_5 : decode cJ9_max_7cf53 5 = .ok (.iload_n 0, 1) := by decide +kernel
theorem dJ9_max_7cf53_6 : decode cJ9_max_7cf53 6 = .ok (.goto 4, 3) := by decide +kernel
theorem dJ9_max_7cf53_9 : decode cJ9_max_7cf53 9 = .ok (.iload_n 1, 1) := by decide +kernel
theorem dJ9_max_7cf53_10 : decode cJ9_max_7cf53 10 = .ok (.ireturn, 1) := by decide +kernel
theorem dJ9_min_7cf53_0 : decode cJ9_min_7cf53 0 = .ok (.iload_n 0, 1) := by decide +kernel
theorem dJ9_min_7cf53_1 : decode cJ9_min_7cf53 1 = .ok (.iload_n 1, 1) := by decide +kernel
theorem dJ9_min_7cf53_2 : decode cJ9_min_7cf53 2 = .ok (.if_icmp .gt 7, 3) := by decide +kernel
theorem dJ9_min_7cf53_5 : decode cJ9_min_7cf53 5 = .ok (.iload_n 0, 1) := by decide +kernel
theorem dJ9_min_7cf53_6 : decode cJ9_min_7cf53 6 = .ok (.goto 4, 3) := by decide +kernel
theorem dJ9_min_7cf53_9 : decode cJ9_min_7cf53 9 = .ok (.iload_n 1, 1) := by decide +kernel
theorem dJ9_min_7cf53_10 : decode cJ9_min_7cf53 10 = .ok (.ireturn, 1) := by decide +kernel
def M_J6_bitCount_0f7a4 : MD := (yJ6_bitCount_0f7a4, cJ6_bitCount_0f7a4, 1, (some .int), 0, 0, 0, 0)
theorem cs_J6_bitCount_0f7a4 : CSo M_J6_bitCount_0f7a4 1 := ⟨⟨wd_782, wd_126, ⟨by decide, by decide⟩, by decide +kernel⟩, wd_781⟩
def J6_bitCount_0f7a4 (a0 : Int32) (h : Hp) : Option (Int32 × Hp) :=
  pin (a0 - (((a0.toUInt32 >>> ((1 : Int32).toUInt32 &&& Int32.toUInt32 31)).toInt32) &&& 1431655765)) fun v1 =>
  pin ((v1 &&& 858993459) + (((v1.toUInt32 >>> ((2 : Int32).toUInt32 &&& Int32.toUInt32 31)).toInt32) &&& 858993459)) fun v2 =>
  pin ((v2 + ((v2.toUInt32 >>> ((4 : Int32).toUInt32 &&& Int32.toUInt32 31)).toInt32)) &&& 252645135) fun v3 =>
  pin (v3 + ((v3.toUInt32 >>> ((8 : Int32).toUInt32 &&& Int32.toUInt32 31)).toInt32)) fun v4 =>
  pin (v4 + ((v4.toUInt32 >>> ((16 : Int32).toUInt32 &&& Int32.toUInt32 31)).toInt32)) fun v5 =>
  some (v5 &&& 63, h)
theorem J6_bitCount_0f7a4_ok {a0 : Int32} {h h' : Hp} {r : Int32} (H : J6_bitCount_0f7a4 a0 h = some (r, h')) : Con M_J6_bitCount_0f7a4 [.int a0] h (some (.int r)) h' := by
  refine con_of_go (by decide +kernel) 0 (L := [some (.int a0)]) rfl (Nat.le_of_ble_eq_true rfl) ?_
  unfold J6_bitCount_0f7a4 at H
  refine go_iload_n (pc := 0) dJ6_bitCount_0f7a4_0 rfl rfl ?_
  refine go_iload_n (pc := 1) dJ6_bitCount_0f7a4_1 rfl rfl ?_
  refine go_iconst (pc := 2) (v := 1) dJ6_bitCount_0f7a4_2 (by decide) ?_
  refine go_iushr (pc := 3) dJ6_bitCount_0f7a4_3 ?_
  refine go_ldcw (pc := 4) (v := 1431655765) dJ6_bitCount_0f7a4_4 wd_783 ?_
  refine go_iand (pc := 7) dJ6_bitCount_0f7a4_7 ?_
  refine go_isub (pc := 8) dJ6_bitCount_0f7a4_8 ?_
  refine go_pin H (fun v1 H => ?_)
  refine go_istore_n (pc := 9) (L' := [some (.int v1)]) dJ6_bitCount_0f7a4_9 rfl (Nat.le_of_ble_eq_true rfl) rfl ?_
  refine go_iload_n (pc := 10) dJ6_bitCount_0f7a4_10 rfl rfl ?_
  refine go_ldcw (pc := 11) (v := 858993459) dJ6_bitCount_0f7a4_11 wd_784 ?_
  refine go_iand (pc := 14) dJ6_bitCount_0f7a4_14 ?_
  refine go_iload_n (pc := 15) dJ6_bitCount_0f7a4_15 rfl rfl ?_
  refine go_iconst (pc := 16) (v := 2) dJ6_bitCount_0f7a4_16 (by decide) ?_
  refine go_iushr (pc := 17) dJ6_bitCount_0f7a4_17 ?_
  refine go_ldcw (pc := 18) (v := 858993459) dJ6_bitCount_0f7a4_18 wd_784 ?_
  refine go_iand (pc := 21) dJ6_bitCount_0f7a4_21 ?_
  refine go_iadd (pc := 22) dJ6_bitCount_0f7a4_22 ?_
  refine go_pin H (fun v2 H => ?_)
  refine go_istore_n (pc := 23) (L' := [some (.int v2)]) dJ6_bitCount_0f7a4_23 rfl (Nat.le_of_ble_eq_true rfl) rfl ?_
  refine go_iload_n (pc := 24) dJ6_bitCount_0f7a4_24 rfl rfl ?_
  refine go_iload_n (pc := 25) dJ6_bitCount_0f7a4_25 rfl rfl ?_
  refine go_iconst (pc := 26) (v := 4) dJ6_bitCount_0f7a4_26 (by decide) ?_
  refine go_iushr (pc := 27) dJ6_bitCount_0f7a4_27 ?_
  refine go_iadd (pc := 28) dJ6_bitCount_0f7a4_28 ?_
  refine go_ldcw (pc := 29) (v := 252645135) dJ6_bitCount_0f7a4_29 wd_785 ?_
  refine go_iand (pc := 32) dJ6_bitCount_0f7a4_32 ?_
  refine go_pin H (fun v3 H => ?_)
  refine go_istore_n (pc := 33) (L' := [some (.int v3)]) dJ6_bitCount_0f7a4_33 rfl (Nat.le_of_ble_eq_true rfl) rfl ?_
  refine go_iload_n (pc := 34) dJ6_bitCount_0f7a4_34 rfl rfl ?_
  refine go_iload_n (pc := 35) dJ6_bitCount_0f7a4_35 rfl rfl ?_
  refine go_bipush (pc := 36) (v := 8) dJ6_bitCount_0f7a4_36 (by decide) ?_
  refine go_iushr (pc := 38) dJ6_bitCount_0f7a4_38 ?_
  refine go_iadd (pc := 39) dJ6_bitCount_0f7a4_39 ?_
  refine go_pin H (fun v4 H => ?_)
  refine go_istore_n (pc := 40) (L' := [some (.int v4)]) dJ6_bitCount_0f7a4_40 rfl (Nat.le_of_ble_eq_true rfl) rfl ?_
  refine go_iload_n (pc := 41) dJ6_bitCount_0f7a4_41 rfl rfl ?_
  refine go_iload_n (pc := 42) dJ6_bitCount_0f7a4_42 rfl rfl ?_
  refine go_bipush (pc := 43) (v := 16) dJ6_bitCount_0f7a4_43 (by decide) ?_
  refine go_iushr (pc := 45) dJ6_bitCount_0f7a4_45 ?_
  refine go_iadd (pc := 46) dJ6_bitCount_0f7a4_46 ?_
  refine go_pin H (fun v5 H => ?_)
  refine go_istore_n (pc := 47) (L' := [some (.int v5)]) dJ6_bitCount_0f7a4_47 rfl (Nat.le_of_ble_eq_true rfl) rfl ?_
  refine go_iload_n (pc := 48) dJ6_bitCount_0f7a4_48 rfl rfl ?_
  refine go_bipush (pc := 49) (v := 63) dJ6_bitCount_0f7a4_49 (by decide) ?_
  refine go_iand (pc := 51) dJ6_bitCount_0f7a4_51 ?_
  exact go_iret (pc := 52) dJ6_bitCount_0f7a4_52 rfl ⟨Nat.le_of_ble_eq_true rfl, Nat.le_of_ble_eq_true rfl⟩ H

def M_J9_floorDiv_7cf53 : MD := (yJ9_floorDiv_7cf53, cJ9_floorDiv_7cf53, 3, (some .int), 0, 0, 0, 0)
theorem cs_J9_floorDiv_7cf53 : CSo M_J9_floorDiv_7cf53 2 := ⟨⟨wd_900, wd_112, ⟨by decide, by decide⟩, by decide +kernel⟩, wd_899⟩
def J9_floorDiv_7cf53 (a0 : Int32) (a1 : Int32) (h : Hp) : Option (Int32 × Hp) :=
  if a1 = 0 then none else
  pin (a0 / a1) fun v1 =>
  if 0 ≤ (a0 ^^^ a1) then (
    some (v1, h))
  else (
    if (v1 * a1) = a0 then (
      some (v1, h))
    else (
      some (v1 - 1, h)))
theorem J9_floorDiv_7cf53_ok {a0 : Int32} {a1 : Int32} {h h' : Hp} {r : Int32} (H : J9_floorDiv_7cf53 a0 a1 h = some (r, h')) : Con M_J9_floorDiv_7cf53 [.int a0, .int a1] h (some (.int r)) h' := by
  refine con_of_go (by decide +kernel) 1 (L := [some (.int a0), some (.int a1), none]) rfl (Nat.le_of_ble_eq_true rfl) ?_
  unfold J9_floorDiv_7cf53 at H
  refine go_iload_n (pc := 0) dJ9_floorDiv_7cf53_0 rfl rfl ?_
  refine go_iload_n (pc := 1) dJ9_floorDiv_7cf53_1 rfl rfl ?_
  refine go_idivC (pc := 2) dJ9_floorDiv_7cf53_2 H (fun H => ?_)
  refine go_pin H (fun v1 H => ?_)
  refine go_istore_n (pc := 3) (L' := [some (.int a0), some (.int a1), some (.int v1)]) dJ9_floorDiv_7cf53_3 rfl (Nat.le_of_ble_eq_true rfl) rfl ?_
  refine go_iload_n (pc := 4) dJ9_floorDiv_7cf53_4 rfl rfl ?_
  refine go_iload_n (pc := 5) dJ9_floorDiv_7cf53_5 rfl rfl ?_
  refine go_ixor (pc := 6) dJ9_floorDiv_7cf53_6 ?_
  refine go_if_ge (pc := 7) (tgt := 21) dJ9_floorDiv_7cf53_7 (by decide) H (fun H => ?_) (fun H => ?_)
  · refine go_iload_n (pc := 21) dJ9_floorDiv_7cf53_21 rfl rfl ?_
    exact go_iret (pc := 22) dJ9_floorDiv_7cf53_22 rfl ⟨Nat.le_of_ble_eq_true rfl, Nat.le_of_ble_eq_true rfl⟩ H
  · refine go_iload_n (pc := 10) dJ9_floorDiv_7cf53_10 rfl rfl ?_
    refine go_iload_n (pc := 11) dJ9_floorDiv_7cf53_11 rfl rfl ?_
    refine go_imul (pc := 12) dJ9_floorDiv_7cf53_12 ?_
    refine go_iload_n (pc := 13) dJ9_floorDiv_7cf53_13 rfl rfl ?_
    refine go_icmp_eq (pc := 14) (tgt := 21) dJ9_floorDiv_7cf53_14 (by decide) H (fun H => ?_) (fun H => ?_)
    · refine go_iload_n (pc := 21) dJ9_floorDiv_7cf53_21 rfl rfl ?_
      exact go_iret (pc := 22) dJ9_floorDiv_7cf53_22 rfl ⟨Nat.le_of_ble_eq_true rfl, Nat.le_of_ble_eq_true rfl⟩ H
    · refine go_iload_n (pc := 17) dJ9_floorDiv_7cf53_17 rfl rfl ?_
      refine go_iconst (pc := 18) (v := 1) dJ9_floorDiv_7cf53_18 (by decide) ?_
      refine go_isub (pc := 19) dJ9_floorDiv_7cf53_19 ?_
      exact go_iret (pc := 20) dJ9_floorDiv_7cf53_20 rfl ⟨Nat.le_of_ble_eq_true rfl, Nat.le_of_ble_eq_true rfl⟩ H

def M_J9_abs_0f7a4 : MD := (yJ9_abs_0f7a4, cJ9_abs_0f7a4, 1, (some .int), 0, 0, 0, 0)
theorem cs_J9_abs_0f7a4 : CSo M_J9_abs_0f7a4 1 := ⟨⟨wd_883, wd_112, ⟨by decide, by decide⟩, by decide +kernel⟩, wd_882⟩
def J9_abs_0f7a4 (a0 : Int32) (h : Hp) : Option (Int32 × Hp) :=
  if 0 ≤ a0 then (
    some (a0, h))
  else (
    some (-a0, h))
theorem J9_abs_0f7a4_ok {a0 : Int32} {h h' : Hp} {r : Int32} (H : J9_abs_0f7a4 a0 h = some (r, h')) : Con M_J9_abs_0f7a4 [.int a0] h (some (.int r)) h' := by
  refine con_of_go (by decide +kernel) 0 (L := [some (.int a0)]) rfl (Nat.le_of_ble_eq_true rfl) ?_
  unfold J9_abs_0f7a4 at H
  refine go_iload_n (pc := 0) dJ9_abs_0f7a4_0 rfl rfl ?_
  refine go_if_ge (pc := 1) (tgt := 9) dJ9_abs_0f7a4_1 (by decide) H (fun H => ?_) (fun H => ?_)
  · refine go_iload_n (pc := 9) dJ9_abs_0f7a4_9 rfl rfl ?_
    exact go_iret (pc := 10) dJ9_abs_0f7a4_10 rfl ⟨Nat.le_of_ble_eq_true rfl, Nat.le_of_ble_eq_true rfl⟩ H
  · refine go_iload_n (pc := 4) dJ9_abs_0f7a4_4 rfl rfl ?_
    refine go_ineg (pc := 5) dJ9_abs_0f7a4_5 ?_
    refine go_goto (pc := 6) (tgt := 10) dJ9_abs_0f7a4_6 (by decide) ?_
    exact go_iret (pc := 10) dJ9_abs_0f7a4_10 rfl ⟨Nat.le_of_ble_eq_true rfl, Nat.le_of_ble_eq_true rfl⟩ H

def M_J9_max_7cf53 : MD := (yJ9_max_7cf53, cJ9_max_7cf53, 2, (some .int), 0, 0, 0, 0)
theorem cs_J9_max_7cf53 : CSo M_J9_max_7cf53 2 := ⟨⟨wd_153, wd_112, ⟨by decide, by decide⟩, by decide +kernel⟩, wd_152⟩
def J9_max_7cf53 (a0 : Int32) (a1 : Int32) (h : Hp) : Option (Int32 × Hp) :=
  if a0 < a1 then (
    some (a1, h))
  else (
    some (a0, h))
theorem J9_max_7cf53_ok {a0 : Int32} {a1 : Int32} {h h' : Hp} {r : Int32} (H : J9_max_7cf53 a0 a1 h = some (r, h')) : Con M_J9_max_7cf53 [.int a0, .int a1] h (some (.int r)) h' := by
  refine con_of_go (by decide +kernel) 0 (L := [some (.int a0), some (.int a1)]) rfl (Nat.le_of_ble_eq_true rfl) ?_
  unfold J9_max_7cf53 at H
  refine go_iload_n (pc := 0) dJ9_max_7cf53_0 rfl rfl ?_
  refine go_iload_n (pc := 1) dJ9_max_7cf53_1 rfl rfl ?_
  refine go_icmp_lt (pc := 2) (tgt := 9) dJ9_max_7cf53_2 (by decide) H (fun H => ?_) (fun H => ?_)
  · refine go_iload_n (pc := 9) dJ9_max_7cf53_9 rfl rfl ?_
    exact go_iret (pc := 10) dJ9_max_7cf53_10 rfl ⟨Nat.le_of_ble_eq_true rfl, Nat.le_of_ble_eq_true rfl⟩ H
  · refine go_iload_n (pc := 5) dJ9_max_7cf53_5 rfl rfl ?_
    refine go_goto (pc := 6) (tgt := 10) dJ9_max_7cf53_6 (by decide) ?_
    exact go_iret (pc := 10) dJ9_max_7cf53_10 rfl ⟨Nat.le_of_ble_eq_true rfl, Nat.le_of_ble_eq_true rfl⟩ H

def M_J9_min_7cf53 : MD := (yJ9_min_7cf53, cJ9_min_7cf53, 2, (some .int), 0, 0, 0, 0)
theorem cs_J9_min_7cf53 : CSo M_J9_min_7cf53 2 := ⟨⟨wd_1212, wd_112, ⟨by decide, by decide⟩, by decide +kernel⟩, wd_1211⟩
def J9_min_7cf53 (a0 : Int32) (a1 : Int32) (h : Hp) : Option (Int32 × Hp) :=
  if a1 < a0 then (
    some (a1, h))
  else (
    some (a0, h))
theorem J9_min_7cf53_ok {a0 : Int32} {a1 : Int32} {h h' : Hp} {r : Int32} (H : J9_min_7cf53 a0 a1 h = some (r, h')) : Con M_J9_min_7cf53 [.int a0, .int a1] h (some (.int r)) h' := by
  refine con_of_go (by decide +kernel) 0 (L := [some (.int a0), some (.int a1)]) rfl (Nat.le_of_ble_eq_true rfl) ?_
  unfold J9_min_7cf53 at H
  refine go_iload_n (pc := 0) dJ9_min_7cf53_0 rfl rfl ?_
  refine go_iload_n (pc := 1) dJ9_min_7cf53_1 rfl rfl ?_
  refine go_icmp_gt (pc := 2) (tgt := 9) dJ9_min_7cf53_2 (by decide) H (fun H => ?_) (fun H => ?_)
  · refine go_iload_n (pc := 9) dJ9_min_7cf53_9 rfl rfl ?_
    exact go_iret (pc := 10) dJ9_min_7cf53_10 rfl ⟨Nat.le_of_ble_eq_true rfl, Nat.le_of_ble_eq_true rfl⟩ H
  · refine go_iload_n (pc := 5) dJ9_min_7cf53_5 rfl rfl ?_
    refine go_goto (pc := 6) (tgt := 10) dJ9_min_7cf53_6 (by decide) ?_
    exact go_iret (pc := 10) dJ9_min_7cf53_10 rfl ⟨Nat.le_of_ble_eq_true rfl, Nat.le_of_ble_eq_true rfl⟩ H
