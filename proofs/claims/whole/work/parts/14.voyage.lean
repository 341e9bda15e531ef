/-! 14.voyage: written by wip/whole/gen/all.py -/
theorem dX9_init_0 : decode cX9_init 0 = .ok (.aload_n 0, 1) := by decide +kernel
theorem dX9_init_1 : decode cX9_init 1 = .ok (.invokespecial 3, 3) := by decide +kernel
theorem dX9_init_4 : decode cX9_init 4 = .ok (.aload_n 0, 1) := by decide +kernel
theorem dX9_init_5 : decode cX9_init 5 = .ok (.new 9, 3) := by decide +kernel
theorem dX9_init_8 : decode cX9_init 8 = .ok (.dup, 1) := by decide +kernel
theorem dX9_init_9 : decode cX9_init 9 = .ok (.iconst 5, 1) := by decide +kernel
theorem dX9_init_10 : decode cX9_init 10 = .ok (.iconst 2, 1) := by decide +kernel
theorem dX9_init_11 : decode cX9_init 11 = .ok (.invokespecial 11, 3) := by decide +kernel
theorem dX9_init_14 : decode cX9_init 14 = .ok (.putfield 14, 3) := by decide +kernel
theorem dX9_init_17 : decode cX9_init 17 = .ok (.aload_n 0, 1) := by decide +kernel
theorem dX9_init_18 : decode cX9_init 18 = .ok (.new 9, 3) := by decide +kernel
theorem dX9_init_21 : decode cX9_init 21 = .ok (.dup, 1) := by decide +kernel
theorem dX9_init_22 : decode cX9_init 22 = .ok (.iconst 4, 1) := by decide +kernel
theorem dX9_init_23 : decode cX9_init 23 = .ok (.iconst 2, 1) := by decide +kernel
theorem dX9_init_24 : decode cX9_init 24 = .ok (.invokespecial 11, 3) := by decide +kernel
theorem dX9_init_27 : decode cX9_init 27 = .ok (.putfield 20, 3) := by decide +kernel
theorem dX9_init_30 : decode cX9_init 30 = .ok (.aload_n 0, 1) := by decide +kernel
theorem dX9_init_31 : decode cX9_init 31 = .ok (.new 9, 3) := by decide +kernel
theorem dX9_init_34 : decode cX9_init 34 = .ok (.dup, 1) := by decide +kernel
theorem dX9_init_35 : decode cX9_init 35 = .ok (.bipush 12, 2) := by decide +kernel
theorem dX9_init_37 : decode cX9_init 37 = .ok (.iconst 4, 1) := by decide +kernel
theorem dX9_init_38 : decode cX9_init 38 = .ok (.invokespecial 11, 3) := by decide +kernel
theorem dX9_init_41 : decode cX9_init 41 = .ok (.putfield 23, 3) := by decide +kernel
theorem dX9_init_44 : decode cX9_init 44 = .ok (.aload_n 0, 1) := by decide +kernel
theorem dX9_init_45 : decode cX9_init 45 = .ok (.new 9, 3) := by decide +kernel
theorem dX9_init_48 : decode cX9_init 48 = .ok (.dup, 1) := by decide +kernel
theorem dX9_init_49 : decode cX9_init 49 = .ok (.iconst 4, 1) := by decide +kernel
theorem dX9_init_50 : decode cX9_init 50 = .ok (.iconst 1, 1) := by decide +kernel
theorem dX9_init_51 : decode cX9_init 51 = .ok (.invokespecial 11, 3) := by decide +kernel
theorem dX9_init_54 : decode cX9_init 54 = .ok (.putfield 26, 3) := by decide +kernel
theorem dX9_init_57 : decode cX9_init 57 = .ok (.aload_n 0, 1) := by decide +kernel
theorem dX9_init_58 : decode cX9_init 58 = .ok (.new 9, 3) := by decide +kernel
theorem dX9_init_61 : decode cX9_init 61 = .ok (.dup, 1) := by decide +kernel
theorem dX9_init_62 : decode cX9_init 62 = .ok (.bipush 6, 2) := by decide +kernel
theorem dX9_init_64 : decode cX9_init 64 = .ok (.iconst 1, 1) := by decide +kernel
theorem dX9_init_65 : decode cX9_init 65 = .ok (.invokespecial 11, 3) := by decide +kernel
theorem dX9_init_68 : decode cX9_init 68 = .ok (.putfield 29, 3) := by decide +kernel
theorem dX9_init_71 : decode cX9_init 71 = .ok (.aload_n 0, 1) := by decide +kernel
theorem dX9_init_72 : decode cX9_init 72 = .ok (.new 9, 3) := by decide +kernel
theorem dX9_init_75 : decode cX9_init 75 = .ok (.dup, 1) := by decide +kernel
theorem dX9_init_76 : decode cX9_init 76 = .ok (.iconst 4, 1) := by decide +kernel
theorem dX9_init_77 : decode cX9_init 77 = .ok (.iconst 2, 1) := by decide +kernel
theorem dX9_init_78 : decode cX9_init 78 = .ok (.invokespecial 11, 3) := by decide +kernel
theorem dX9_init_81 : decode cX9_init 81 = .ok (.putfield 32, 3) := by decide +kernel
theorem dX9_init_84 : decode cX9_init 84 = .ok (.aload_n 0, 1) := by decide +kernel
theorem dX9_init_85 : decode cX9_init 85 = .ok (.new 9, 3) := by decide +kernel
theorem dX9_init_88 : decode cX9_init 88 = .ok (.dup, 1) := by decide +kernel
theorem dX9_init_89 : decode cX9_init 89 = .ok (.iconst 3, 1) := by decide +kernel
theorem dX9_init_90 : decode cX9_init 90 = .ok (.iconst 2, 1) := by decide +kernel
theorem dX9_init_91 : decode cX9_init 91 = .ok (.invokespecial 11, 3) := by decide +kernel
theorem dX9_init_94 : decode cX9_init 94 = .ok (.putfield 35, 3) := by decide +kernel
theorem dX9_init_97 : decode cX9_init 97 = .ok (.return_, 1) := by decide +kernel
theorem dX9_clear_0 : decode cX9_clear 0 = .ok (.aload_n 0, 1) := by decide +kernel
theorem dX9_clear_1 : decode cX9_clear 1 = .ok (.getfield 14, 3) := by decide +kernel
theorem dX9_clear_4 : decode cX9_clear 4 = .ok (.iconst 0, 1) := by decide +kernel
theorem dX9_clear_5 : decode cX9_clear 5 = .ok (.putfield 38, 3) := by decide +kernel
theorem dX9_clear_8 : decode cX9_clear 8 = .ok (.aload_n 0, 1) := by decide +kernel
theorem dX9_clear_9 : decode cX9_clear 9 = .ok (.getfield 20, 3) := by decide +kernel
theorem dX9_clear_12 : decode cX9_clear 12 = .ok (.iconst 0, 1) := by decide +kernel
theorem dX9_clear_13 : decode cX9_clear 13 = .ok (.putfield 38, 3) := by decide +kernel
theorem dX9_clear_16 : decode cX9_clear 16 = .ok (.aload_n 0, 1) := by decide +kernel
theorem dX9_clear_17 : decode cX9_clear 17 = .ok (.getfield 23, 3) := by decide +kernel
theorem dX9_clear_20 : decode cX9_clear 20 = .ok (.iconst 0, 1) := by decide +kernel
theorem dX9_clear_21 : decode cX9_clear 21 = .ok (.putfield 38, 3) := by decide +kernel
theorem dX9_clear_24 : decode cX9_clear 24 = .ok (.aload_n 0, 1) := by decide +kernel
theorem dX9_clear_25 : decode cX9_clear 25 = .ok (.getfield 26, 3) := by decide +kernel
theorem dX9_clear_28 : decode cX9_clear 28 = .ok (.iconst 0, 1) := by decide +kernel
theorem dX9_clear_29 : decode cX9_clear 29 = .ok (.putfield 38, 3) := by decide +kernel
theorem dX9_clear_32 : decode cX9_clear 32 = .ok (.aload_n 0, 1) := by decide +kernel
theorem dX9_clear_33 : decode cX9_clear 33 = .ok (.getfield 29, 3) := by decide +kernel
theorem dX9_clear_36 : decode cX9_clear 36 = .ok (.iconst 0, 1) := by decide +kernel
theorem dX9_clear_37 : decode cX9_clear 37 = .ok (.putfield 38, 3) := by decide +kernel
theorem dX9_clear_40 : decode cX9_clear 40 = .ok (.aload_n 0, 1) := by decide +kernel
theorem dX9_clear_41 : decode cX9_clear 41 = .ok (.getfield 32, 3) := by decide +kernel
theorem dX9_clear_44 : decode cX9_clear 44 = .ok (.iconst 0, 1) := by decide +kernel
theorem dX9_clear_45 : decode cX9_clear 45 = .ok (.putfield 38, 3) := by decide +kernel
theorem dX9_clear_48 : decode cX9_clear 48 = .ok (.aload_n 0, 1) := by decide +kernel
theorem dX9_clear_49 : decode cX9_clear 49 = .ok (.getfield 35, 3) := by decide +kernel
theorem dX9_clear_52 : decode cX9_clear 52 = .ok (.iconst 0, 1) := by decide +kernel
theorem dX9_clear_53 : decode cX9_clear 53 = .ok (.putfield 38, 3) := by decide +kernel
theorem dX9_clear_56 : decode cX9_clear 56 = .ok (.aload_n 0, 1) := by decide +kernel
theorem dX9_clear_57 : decode cX9_clear 57 = .ok (.iconst 0, 1) := by decide +kernel
theorem dX9_clear_58 : decode cX9_clear 58 = .ok (.putfield 42, 3) := by decide +kernel
theorem dX9_clear_61 : decode cX9_clear 61 = .ok (.aload_n 0, 1) := by decide +kernel
theorem dX9_clear_62 : decode cX9_clear 62 = .ok (.iconst 0, 1) := by decide +kernel
theorem dX9_clear_63 : decode cX9_clear 63 = .ok (.putfield 46, 3) := by decide +kernel
theorem dX9_clear_66 : decode cX9_clear 66 = .ok (.aload_n 0, 1) := by decide +kernel
theorem dX9_clear_67 : decode cX9_clear 67 = .ok (.iconst 0, 1) := by decide +kernel
theorem dX9_clear_68 : decode cX9_clear 68 = .ok (.putfield 49, 3) := by decide +kernel
theorem dX9_clear_71 : decode cX9_clear 71 = .ok (.aload_n 0, 1) := by decide +kernel
theorem dX9_clear_72 : decode cX9_clear 72 = .ok (.iconst 0, 1) := by decide +kernel
theorem dX9_clear_73 : decode cX9_clear 73 = .ok (.putfield 52, 3) := by decide +kernel
theorem dX9_clear_76 : decode cX9_clear 76 = .ok (.aload_n 0, 1) := by decide +kernel
theorem dX9_clear_77 : decode cX9_clear 77 = .ok (.iconst 0, 1) := by decide +kernel
theorem dX9_clear_78 : decode cX9_clear 78 = .ok (.putfield 55, 3) := by decide +kernel
theorem dX9_clear_81 : decode cX9_clear 81 = .ok (.return_, 1) := by decide +kernel
theorem dX9_isLaterThanAll_0 : decode cX9_isLaterThanAll 0 = .ok (.iconst 0, 1) := by decide +kernel
theorem dX9_isLaterThanAll_1 : decode cX9_isLaterThanAll 1 = .ok (.istore_n 3, 1) := by decide +kernel
theorem dX9_isLaterThanAll_2 : decode cX9_isLaterThanAll 2 = .ok (.iload_n 3, 1) := by decide +kernel
theorem dX9_isLaterThanAll_3 : decode cX9_isLaterThanAll 3 = .ok (.aload_n 1, 1) := by decide +kernel
theorem dX9_isLaterThanAll_4 : decode cX9_isLaterThanAll 4 = .ok (.getfield 38, 3) := by decide +kernel
theorem dX9_isLaterThanAll_7 : decode cX9_isLaterThanAll 7 = .ok (.if_icmp .ge 27, 3) := by decide +kernel
theorem dX9_isLaterThanAll_10 : decode cX9_isLaterThanAll 10 = .ok (.aload_n 1, 1) := by decide +kernel
theorem dX9_isLaterThanAll_11 : decode cX9_isLaterThanAll 11 = .ok (.iload_n 3, 1) := by decide +kernel
theorem dX9_isLaterThanAll_12 : decode cX9_isLaterThanAll 12 = .ok (.iload_n 2, 1) := by decide +kernel
theorem dX9_isLaterThanAll_13 : decode cX9_isLaterThanAll 13 = .ok (.invokevirtual 62, 3) := by decide +kernel
theorem dX9_isLaterThanAll_16 : decode cX9_isLaterThanAll 16 = .ok (.aload_n 0, 1) := by decide +kernel
theorem dX9_isLaterThanAll_17 : decode cX9_isLaterThanAll 17 = .ok (.getfield 23, 3) := by decide +kernel
theorem dX9_isLaterThanAll_20 : decode cX9_isLaterThanAll 20 = .ok (.getfield 38, 3) := by decide +kernel
theorem dX9_isLaterThanAll_23 : decode cX9_isLaterThanAll 23 = .ok (.if_icmp .le 5, 3) := by decide +kernel
theorem dX9_isLaterThanAll_26 : decode cX9_isLaterThanAll 26 = .ok (.iconst 1, 1) := by decide +kernel
theorem dX9_isLaterThanAll_27 : decode cX9_isLaterThanAll 27 = .ok (.ireturn, 1) := by decide +kernel
theorem dX9_isLaterThanAll_28 : decode cX9_isLaterThanAll 28 = .ok (.iinc 3 1, 3) := by decide +kernel
theorem dX9_isLaterThanAll_31 : decode cX9_isLaterThanAll 31 = .ok (.goto (-29), 3) := by decide +kernel
theorem dX9_isLaterThanAll_34 : decode cX9_isLaterThanAll 34 = .ok (.iconst 0, 1) := by decide +kernel
theorem dX9_isLaterThanAll_35 : decode cX9_isLaterThanAll 35 = .ok (.ireturn, 1) := by decide +kernel
theorem dX9_isLate_0 : decode cX9_isLate 0 = .ok (.aload_n 0, 1) := by decide +kernel
theorem dX9_isLate_1 : decode cX9_isLate 1 = .ok (.aload_n 0, 1) := by decide +kernel
theorem dX9_isLate_2 : decode cX9_isLate 2 = .ok (.getfield 26, 3) := by decide +kernel
theorem dX9_isLate_5 : decode cX9_isLate 5 = .ok (.iconst 0, 1) := by decide +kernel
theorem dX9_isLate_6 : decode cX9_isLate 6 = .ok (.invokevirtual 58, 3) := by decide +kernel
theorem dX9_isLate_9 : decode cX9_isLate 9 = .ok (.ifCond .ne 15, 3) := by decide +kernel
theorem dX9_isLate_12 : decode cX9_isLate 12 = .ok (.aload_n 0, 1) := by decide +kernel
theorem dX9_isLate_13 : decode cX9_isLate 13 = .ok (.aload_n 0, 1) := by decide +kernel
theorem dX9_isLate_14 : decode cX9_isLate 14 = .ok (.getfield 35, 3) := by decide +kernel
theorem dX9_isLate_17 : decode cX9_isLate 17 = .ok (.iconst 0, 1) := by decide +kernel
theorem dX9_isLate_18 : decode cX9_isLate 18 = .ok (.invokevirtual 58, 3) := by decide +kernel
theorem dX9_isLate_21 : decode cX9_isLate 21 = .ok (.ifCond .eq 7, 3) := by decide +kernel
theorem dX9_isLate_24 : decode cX9_isLate 24 = .ok (.iconst 1, 1) := by decide +kernel
theorem dX9_isLate_25 : decode cX9_isLate 25 = .ok (.goto 4, 3) := by decide +kernel
theorem dX9_isLate_28 : decode cX9_isLate 28 = .ok (.iconst 0, 1) := by decide +kernel
theorem dX9_isLate_29 : decode cX9_isLate 29 = .ok (.ireturn, 1) := by decide +kernel
def M_X9_init : MD := (yX9_init, cX9_init, 1, none, 2, 43, 14, 364)
theorem ci_X9_init : CIo M_X9_init 0 := ⟨⟨wd_143, wd_110, ⟨by decide, by decide⟩, by decide +kernel⟩, wd_142, rfl, rfl⟩
def X9_init (a0 : Nat) (h : Hp) : Option (Hp) :=
  pin (nw h (.inr (8, [.int 0, .int 0, .null, .int 0]))) fun h1 =>
  (X8_init h.1 5 2 h1).bind fun h2 =>
  (pF h2 a0 9 0 (.ref h.1)).bind fun h3 =>
  pin (nw h3 (.inr (8, [.int 0, .int 0, .null, .int 0]))) fun h4 =>
  (X8_init h3.1 4 2 h4).bind fun h5 =>
  (pF h5 a0 9 1 (.ref h3.1)).bind fun h6 =>
  pin (nw h6 (.inr (8, [.int 0, .int 0, .null, .int 0]))) fun h7 =>
  (X8_init h6.1 12 4 h7).bind fun h8 =>
  (pF h8 a0 9 2 (.ref h6.1)).bind fun h9 =>
  pin (nw h9 (.inr (8, [.int 0, .int 0, .null, .int 0]))) fun h10 =>
  (X8_init h9.1 4 1 h10).bind fun h11 =>
  (pF h11 a0 9 3 (.ref h9.1)).bind fun h12 =>
  pin (nw h12 (.inr (8, [.int 0, .int 0, .null, .int 0]))) fun h13 =>
  (X8_init h12.1 6 1 h13).bind fun h14 =>
  (pF h14 a0 9 4 (.ref h12.1)).bind fun h15 =>
  pin (nw h15 (.inr (8, [.int 0, .int 0, .null, .int 0]))) fun h16 =>
  (X8_init h15.1 4 2 h16).bind fun h17 =>
  (pF h17 a0 9 5 (.ref h15.1)).bind fun h18 =>
  pin (nw h18 (.inr (8, [.int 0, .int 0, .null, .int 0]))) fun h19 =>
  (X8_init h18.1 3 2 h19).bind fun h20 =>
  (pF h20 a0 9 6 (.ref h18.1)).bind fun h21 =>
  some h21
theorem X9_init_ok {a0 : Nat} {h h' : Hp} (H : X9_init a0 h = some h') : Con M_X9_init [.ref a0] h none h' := by
  refine con_of_go (by decide) 0 (L := [some (.ref a0)]) rfl (Nat.le_of_ble_eq_true rfl) ?_
  unfold X9_init at H
  refine go_aload_n (pc := 0) dX9_init_0 rfl rfl ?_
  refine go_objInit (pc := 1) dX9_init_1 wd_144 wd_137 wd_138 (Nat.le_of_ble_eq_true rfl) (Nat.le_of_ble_eq_true rfl) ?_
  refine go_aload_n (pc := 4) dX9_init_4 rfl rfl ?_
  refine go_new (pc := 5) dX9_init_5 nl_X9_9 (Nat.le_of_ble_eq_true rfl) (Nat.le_of_ble_eq_true rfl) ?_
  refine go_pinH H (fun h1 H => ?_)
  refine go_dup (pc := 8) dX9_init_8 rfl ?_
  refine go_iconst (pc := 9) (v := 5) dX9_init_9 (by decide) ?_
  refine go_iconst (pc := 10) (v := 2) dX9_init_10 (by decide) ?_
  refine go_cIv (pc := 11) (Mz := M_X8_init) (as := [.int 5, .int 2]) (a := h.1) (st := [.ref h.1, .ref a0]) dX9_init_11 wd_147 ci_X8_init X8_init_ok rfl rfl ⟨Nat.le_of_ble_eq_true rfl, Nat.le_of_ble_eq_true rfl⟩ (Nat.le_of_ble_eq_true rfl) ⟨Nat.le_of_ble_eq_true rfl, Nat.le_of_ble_eq_true rfl⟩ H (fun h2 H => ?_)
  refine go_putRF (pc := 14) dX9_init_14 fs_X9_14 ⟨rfl, _, rfl, rfl⟩ H (fun h3 H => ?_)
  refine go_aload_n (pc := 17) dX9_init_17 rfl rfl ?_
  refine go_new (pc := 18) dX9_init_18 nl_X9_9 (Nat.le_of_ble_eq_true rfl) (Nat.le_of_ble_eq_true rfl) ?_
  refine go_pinH H (fun h4 H => ?_)
  refine go_dup (pc := 21) dX9_init_21 rfl ?_
  refine go_iconst (pc := 22) (v := 4) dX9_init_22 (by decide) ?_
  refine go_iconst (pc := 23) (v := 2) dX9_init_23 (by decide) ?_
  refine go_cIv (pc := 24) (Mz := M_X8_init) (as := [.int 4, .int 2]) (a := h3.1) (st := [.ref h3.1, .ref a0]) dX9_init_24 wd_147 ci_X8_init X8_init_ok rfl rfl ⟨Nat.le_of_ble_eq_true rfl, Nat.le_of_ble_eq_true rfl⟩ (Nat.le_of_ble_eq_true rfl) ⟨Nat.le_of_ble_eq_true rfl, Nat.le_of_ble_eq_true rfl⟩ H (fun h5 H => ?_)
  refine go_putRF (pc := 27) dX9_init_27 fs_X9_20 ⟨rfl, _, rfl, rfl⟩ H (fun h6 H => ?_)
  refine go_aload_n (pc := 30) dX9_init_30 rfl rfl ?_
  refine go_new (pc := 31) dX9_init_31 nl_X9_9 (Nat.le_of_ble_eq_true rfl) (Nat.le_of_ble_eq_true rfl) ?_
  refine go_pinH H (fun h7 H => ?_)
  refine go_dup (pc := 34) dX9_init_34 rfl ?_
  refine go_bipush (pc := 35) (v := 12) dX9_init_35 (by decide) ?_
  refine go_iconst (pc := 37) (v := 4) dX9_init_37 (by decide) ?_
  refine go_cIv (pc := 38) (Mz := M_X8_init) (as := [.int 12, .int 4]) (a := h6.1) (st := [.ref h6.1, .ref a0]) dX9_init_38 wd_147 ci_X8_init X8_init_ok rfl rfl ⟨Nat.le_of_ble_eq_true rfl, Nat.le_of_ble_eq_true rfl⟩ (Nat.le_of_ble_eq_true rfl) ⟨Nat.le_of_ble_eq_true rfl, Nat.le_of_ble_eq_true rfl⟩ H (fun h8 H => ?_)
  refine go_putRF (pc := 41) dX9_init_41 fs_X9_23 ⟨rfl, _, rfl, rfl⟩ H (fun h9 H => ?_)
  refine go_aload_n (pc := 44) dX9_init_44 rfl rfl ?_
  refine go_new (pc := 45) dX9_init_45 nl_X9_9 (Nat.le_of_ble_eq_true rfl) (Nat.le_of_ble_eq_true rfl) ?_
  refine go_pinH H (fun h10 H => ?_)
  refine go_dup (pc := 48) dX9_init_48 rfl ?_
  refine go_iconst (pc := 49) (v := 4) dX9_init_49 (by decide) ?_
  refine go_iconst (pc := 50) (v := 1) dX9_init_50 (by decide) ?_
  refine go_cIv (pc := 51) (Mz := M_X8_init) (as := [.int 4, .int 1]) (a := h9.1) (st := [.ref h9.1, .ref a0]) dX9_init_51 wd_147 ci_X8_init X8_init_ok rfl rfl ⟨Nat.le_of_ble_eq_true rfl, Nat.le_of_ble_eq_true rfl⟩ (Nat.le_of_ble_eq_true rfl) ⟨Nat.le_of_ble_eq_true rfl, Nat.le_of_ble_eq_true rfl⟩ H (fun h11 H => ?_)
  refine go_putRF (pc := 54) dX9_init_54 fs_X9_26 ⟨rfl, _, rfl, rfl⟩ H (fun h12 H => ?_)
  refine go_aload_n (pc := 57) dX9_init_57 rfl rfl ?_
  refine go_new (pc := 58) dX9_init_58 nl_X9_9 (Nat.le_of_ble_eq_true rfl) (Nat.le_of_ble_eq_true rfl) ?_
  refine go_pinH H (fun h13 H => ?_)
  refine go_dup (pc := 61) dX9_init_61 rfl ?_
  refine go_bipush (pc := 62) (v := 6) dX9_init_62 (by decide) ?_
  refine go_iconst (pc := 64) (v := 1) dX9_init_64 (by decide) ?_
  refine go_cIv (pc := 65) (Mz := M_X8_init) (as := [.int 6, .int 1]) (a := h12.1) (st := [.ref h12.1, .ref a0]) dX9_init_65 wd_147 ci_X8_init X8_init_ok rfl rfl ⟨Nat.le_of_ble_eq_true rfl, Nat.le_of_ble_eq_true rfl⟩ (Nat.le_of_ble_eq_true rfl) ⟨Nat.le_of_ble_eq_true rfl, Nat.le_of_ble_eq_true rfl⟩ H (fun h14 H => ?_)
  refine go_putRF (pc := 68) dX9_init_68 fs_X9_29 ⟨rfl, _, rfl, rfl⟩ H (fun h15 H => ?_)
  refine go_aload_n (pc := 71) dX9_init_71 rfl rfl ?_
  refine go_new (pc := 72) dX9_init_72 nl_X9_9 (Nat.le_of_ble_eq_true rfl) (Nat.le_of_ble_eq_true rfl) ?_
  refine go_pinH H (fun h16 H => ?_)
  refine go_dup (pc := 75) dX9_init_75 rfl ?_
  refine go_iconst (pc := 76) (v := 4) dX9_init_76 (by decide) ?_
  refine go_iconst (pc := 77) (v := 2) dX9_init_77 (by decide) ?_
  refine go_cIv (pc := 78) (Mz := M_X8_init) (as := [.int 4, .int 2]) (a := h15.1) (st := [.ref h15.1, .ref a0]) dX9_init_78 wd_147 ci_X8_init X8_init_ok rfl rfl ⟨Nat.le_of_ble_eq_true rfl, Nat.le_of_ble_eq_true rfl⟩ (Nat.le_of_ble_eq_true rfl) ⟨Nat.le_of_ble_eq_true rfl, Nat.le_of_ble_eq_true rfl⟩ H (fun h17 H => ?_)
  refine go_putRF (pc := 81) dX9_init_81 fs_X9_32 ⟨rfl, _, rfl, rfl⟩ H (fun h18 H => ?_)
  refine go_aload_n (pc := 84) dX9_init_84 rfl rfl ?_
  refine go_new (pc := 85) dX9_init_85 nl_X9_9 (Nat.le_of_ble_eq_true rfl) (Nat.le_of_ble_eq_true rfl) ?_
  refine go_pinH H (fun h19 H => ?_)
  refine go_dup (pc := 88) dX9_init_88 rfl ?_
  refine go_iconst (pc := 89) (v := 3) dX9_init_89 (by decide) ?_
  refine go_iconst (pc := 90) (v := 2) dX9_init_90 (by decide) ?_
  refine go_cIv (pc := 91) (Mz := M_X8_init) (as := [.int 3, .int 2]) (a := h18.1) (st := [.ref h18.1, .ref a0]) dX9_init_91 wd_147 ci_X8_init X8_init_ok rfl rfl ⟨Nat.le_of_ble_eq_true rfl, Nat.le_of_ble_eq_true rfl⟩ (Nat.le_of_ble_eq_true rfl) ⟨Nat.le_of_ble_eq_true rfl, Nat.le_of_ble_eq_true rfl⟩ H (fun h20 H => ?_)
  refine go_putRF (pc := 94) dX9_init_94 fs_X9_35 ⟨rfl, _, rfl, rfl⟩ H (fun h21 H => ?_)
  exact go_vret (pc := 97) dX9_init_97 rfl ⟨Nat.le_of_ble_eq_true rfl, Nat.le_of_ble_eq_true rfl⟩ H

def M_X9_clear : MD := (yX9_clear, cX9_clear, 1, none, 0, 0, 0, 0)
theorem cv_X9_clear : CVo M_X9_clear 0 9 := ⟨⟨wd_522, wd_110, ⟨by decide, by decide⟩, by decide +kernel⟩, wd_520, wd_521, _, rfl, rfl⟩
def X9_clear (a0 : Nat) (h : Hp) : Option (Hp) :=
  (gR h a0 9 0).bind fun v1 =>
  (pF h v1 8 3 (.int 0)).bind fun h2 =>
  (gR h2 a0 9 1).bind fun v3 =>
  (pF h2 v3 8 3 (.int 0)).bind fun h4 =>
  (gR h4 a0 9 2).bind fun v5 =>
  (pF h4 v5 8 3 (.int 0)).bind fun h6 =>
  (gR h6 a0 9 3).bind fun v7 =>
  (pF h6 v7 8 3 (.int 0)).bind fun h8 =>
  (gR h8 a0 9 4).bind fun v9 =>
  (pF h8 v9 8 3 (.int 0)).bind fun h10 =>
  (gR h10 a0 9 5).bind fun v11 =>
  (pF h10 v11 8 3 (.int 0)).bind fun h12 =>
  (gR h12 a0 9 6).bind fun v13 =>
  (pF h12 v13 8 3 (.int 0)).bind fun h14 =>
  (pZ h14 a0 9 7 0).bind fun h15 =>
  (pF h15 a0 9 8 (.int 0)).bind fun h16 =>
  (pF h16 a0 9 9 (.int 0)).bind fun h17 =>
  (pF h17 a0 9 10 (.int 0)).bind fun h18 =>
  (pF h18 a0 9 11 (.int 0)).bind fun h19 =>
  some h19
theorem X9_clear_ok {a0 : Nat} {h h' : Hp} (H : X9_clear a0 h = some h') : Con M_X9_clear [.ref a0] h none h' := by
  refine con_of_go (by decide) 0 (L := [some (.ref a0)]) rfl (Nat.le_of_ble_eq_true rfl) ?_
  unfold X9_clear at H
  refine go_aload_n (pc := 0) dX9_clear_0 rfl rfl ?_
  refine go_getR (pc := 1) dX9_clear_1 fl_X9_14 H (fun v1 H => ?_)
  refine go_iconst (pc := 4) (v := 0) dX9_clear_4 (by decide) ?_
  refine go_putI (pc := 5) dX9_clear_5 fs_X9_38 H (fun h2 H => ?_)
  refine go_aload_n (pc := 8) dX9_clear_8 rfl rfl ?_
  refine go_getR (pc := 9) dX9_clear_9 fl_X9_20 H (fun v3 H => ?_)
  refine go_iconst (pc := 12) (v := 0) dX9_clear_12 (by decide) ?_
  refine go_putI (pc := 13) dX9_clear_13 fs_X9_38 H (fun h4 H => ?_)
  refine go_aload_n (pc := 16) dX9_clear_16 rfl rfl ?_
  refine go_getR (pc := 17) dX9_clear_17 fl_X9_23 H (fun v5 H => ?_)
  refine go_iconst (pc := 20) (v := 0) dX9_clear_20 (by decide) ?_
  refine go_putI (pc := 21) dX9_clear_21 fs_X9_38 H (fun h6 H => ?_)
  refine go_aload_n (pc := 24) dX9_clear_24 rfl rfl ?_
  refine go_getR (pc := 25) dX9_clear_25 fl_X9_26 H (fun v7 H => ?_)
  refine go_iconst (pc := 28) (v := 0) dX9_clear_28 (by decide) ?_
  refine go_putI (pc := 29) dX9_clear_29 fs_X9_38 H (fun h8 H => ?_)
  refine go_aload_n (pc := 32) dX9_clear_32 rfl rfl ?_
  refine go_getR (pc := 33) dX9_clear_33 fl_X9_29 H (fun v9 H => ?_)
  refine go_iconst (pc := 36) (v := 0) dX9_clear_36 (by decide) ?_
  refine go_putI (pc := 37) dX9_clear_37 fs_X9_38 H (fun h10 H => ?_)
  refine go_aload_n (pc := 40) dX9_clear_40 rfl rfl ?_
  refine go_getR (pc := 41) dX9_clear_41 fl_X9_32 H (fun v11 H => ?_)
  refine go_iconst (pc := 44) (v := 0) dX9_clear_44 (by decide) ?_
  refine go_putI (pc := 45) dX9_clear_45 fs_X9_38 H (fun h12 H => ?_)
  refine go_aload_n (pc := 48) dX9_clear_48 rfl rfl ?_
  refine go_getR (pc := 49) dX9_clear_49 fl_X9_35 H (fun v13 H => ?_)
  refine go_iconst (pc := 52) (v := 0) dX9_clear_52 (by decide) ?_
  refine go_putI (pc := 53) dX9_clear_53 fs_X9_38 H (fun h14 H => ?_)
  refine go_aload_n (pc := 56) dX9_clear_56 rfl rfl ?_
  refine go_iconst (pc := 57) (v := 0) dX9_clear_57 (by decide) ?_
  refine go_putZ (pc := 58) dX9_clear_58 fs_X9_42 H (fun h15 H => ?_)
  refine go_aload_n (pc := 61) dX9_clear_61 rfl rfl ?_
  refine go_iconst (pc := 62) (v := 0) dX9_clear_62 (by decide) ?_
  refine go_putI (pc := 63) dX9_clear_63 fs_X9_46 H (fun h16 H => ?_)
  refine go_aload_n (pc := 66) dX9_clear_66 rfl rfl ?_
  refine go_iconst (pc := 67) (v := 0) dX9_clear_67 (by decide) ?_
  refine go_putI (pc := 68) dX9_clear_68 fs_X9_49 H (fun h17 H => ?_)
  refine go_aload_n (pc := 71) dX9_clear_71 rfl rfl ?_
  refine go_iconst (pc := 72) (v := 0) dX9_clear_72 (by decide) ?_
  refine go_putI (pc := 73) dX9_clear_73 fs_X9_52 H (fun h18 H => ?_)
  refine go_aload_n (pc := 76) dX9_clear_76 rfl rfl ?_
  refine go_iconst (pc := 77) (v := 0) dX9_clear_77 (by decide) ?_
  refine go_putI (pc := 78) dX9_clear_78 fs_X9_55 H (fun h19 H => ?_)
  exact go_vret (pc := 81) dX9_clear_81 rfl ⟨Nat.le_of_ble_eq_true rfl, Nat.le_of_ble_eq_true rfl⟩ H

def M_X9_isLaterThanAll : MD := (yX9_isLaterThanAll, cX9_isLaterThanAll, 4, (some .boolean), 1, 22, 0, 0)
theorem cv_X9_isLaterThanAll : CVo M_X9_isLaterThanAll 2 9 := ⟨⟨wd_721, wd_110, ⟨by decide, by decide⟩, by decide +kernel⟩, wd_720, wd_24, _, rfl, rfl⟩
def X9_isLaterThanAll_L2_s (rc2 : Nat → Nat → Int32 → Int32 → Hp → Option (Int32 × Hp)) (a0 : Nat) (a1 : Nat) (a2 : Int32) (a3 : Int32) (h : Hp) : Option (Int32 × Hp) :=
  (gI h a1 8 3).bind fun v101 =>
  if v101 ≤ a3 then (
    rZ 0 h)
  else (
    cV h a1 8 (X8_cell a1 a3 a2 h) fun v103 h102 =>
    (gR h102 a0 9 2).bind fun v104 =>
    (gI h102 v104 8 3).bind fun v105 =>
    if v103 ≤ v105 then (
      rc2 a0 a1 a2 (a3 + 1) h102)
    else (
      rZ 1 h102))
def X9_isLaterThanAll_L2 (q : Nat) : Nat → Nat → Int32 → Int32 → Hp → Option (Int32 × Hp) := loopN (fun _ _ _ _ _ => none) (X9_isLaterThanAll_L2_s) q
theorem X9_isLaterThanAll_L2_ok {hh h' : Hp} {r : Int32}  : ∀ (q : Nat) (a0 : Nat) (a1 : Nat) (a2 : Int32) (a3 : Int32) (h : Hp), X9_isLaterThanAll_L2 q a0 a1 a2 a3 h = some (r, h') → Go (PM M_X9_isLaterThanAll hh (some (.int r)) h') M_X9_isLaterThanAll 2 [some (.ref a0), some (.ref a1), some (.int a2), some (.int a3)] [] h 0 0 := by
  intro q
  induction q with
  | zero => intro a0 a1 a2 a3 h H; cases H
  | succ q hrc2 =>
    intro a0 a1 a2 a3 h H
    replace H : X9_isLaterThanAll_L2_s (X9_isLaterThanAll_L2 q) a0 a1 a2 a3 h = some (r, h') := H
    unfold X9_isLaterThanAll_L2_s at H
    refine go_iload_n (pc := 2) dX9_isLaterThanAll_2 rfl rfl ?_
    refine go_aload_n (pc := 3) dX9_isLaterThanAll_3 rfl rfl ?_
    refine go_getI (pc := 4) dX9_isLaterThanAll_4 fl_X9_38 H (fun v101 H => ?_)
    refine go_icmp_ge (pc := 7) (tgt := 34) dX9_isLaterThanAll_7 (by decide) H (fun H => ?_) (fun H => ?_)
    · refine go_iconst (pc := 34) (v := 0) dX9_isLaterThanAll_34 (by decide) ?_
      exact go_zret (pc := 35) dX9_isLaterThanAll_35 rfl ⟨Nat.le_of_ble_eq_true rfl, Nat.le_of_ble_eq_true rfl⟩ H
    · refine go_aload_n (pc := 10) dX9_isLaterThanAll_10 rfl rfl ?_
      refine go_iload_n (pc := 11) dX9_isLaterThanAll_11 rfl rfl ?_
      refine go_iload_n (pc := 12) dX9_isLaterThanAll_12 rfl rfl ?_
      refine go_cVi (pc := 13) (Mz := M_X8_cell) (as := [.int a3, .int a2]) (a := a1) (st := []) dX9_isLaterThanAll_13 wd_722 cv_X8_cell X8_cell_ok rfl rfl ⟨Nat.le_of_ble_eq_true rfl, Nat.le_of_ble_eq_true rfl⟩ (Nat.le_of_ble_eq_true rfl) ⟨rfl, rfl⟩ ⟨Nat.le_of_ble_eq_true rfl, Nat.le_of_ble_eq_true rfl⟩ H (fun v103 h102 H => ?_)
      refine go_aload_n (pc := 16) dX9_isLaterThanAll_16 rfl rfl ?_
      refine go_getR (pc := 17) dX9_isLaterThanAll_17 fl_X9_23 H (fun v104 H => ?_)
      refine go_getI (pc := 20) dX9_isLaterThanAll_20 fl_X9_38 H (fun v105 H => ?_)
      refine go_icmp_le (pc := 23) (tgt := 28) dX9_isLaterThanAll_23 (by decide) H (fun H => ?_) (fun H => ?_)
      · refine go_iinc (pc := 28) (v := a3 + 1) (L' := [some (.ref a0), some (.ref a1), some (.int a2), some (.int (a3 + 1))]) dX9_isLaterThanAll_28 rfl rfl (Nat.le_of_ble_eq_true rfl) rfl ?_
        refine go_goto (pc := 31) (tgt := 2) dX9_isLaterThanAll_31 (by decide) ?_
        exact Go.weak (L' := [some (.ref a0), some (.ref a1), some (.int a2), some (.int (a3 + 1))]) ⟨rfl, ⟨rfl, ⟨rfl, ⟨rfl, trivial⟩⟩⟩⟩ (hrc2 a0 a1 a2 (a3 + 1) h102 H)
      · refine go_iconst (pc := 26) (v := 1) dX9_isLaterThanAll_26 (by decide) ?_
        exact go_zret (pc := 27) dX9_isLaterThanAll_27 rfl ⟨Nat.le_of_ble_eq_true rfl, Nat.le_of_ble_eq_true rfl⟩ H

def X9_isLaterThanAll (a0 : Nat) (a1 : Nat) (a2 : Int32) (h : Hp) : Option (Int32 × Hp) :=
  X9_isLaterThanAll_L2 5000 a0 a1 a2 0 h
theorem X9_isLaterThanAll_ok {a0 : Nat} {a1 : Nat} {a2 : Int32} {h h' : Hp} {r : Int32} (H : X9_isLaterThanAll a0 a1 a2 h = some (r, h')) : Con M_X9_isLaterThanAll [.ref a0, .ref a1, .int a2] h (some (.int r)) h' := by
  refine con_of_go (by decide) 1 (L := [some (.ref a0), some (.ref a1), some (.int a2), none]) rfl (Nat.le_of_ble_eq_true rfl) ?_
  unfold X9_isLaterThanAll at H
  refine go_iconst (pc := 0) (v := 0) dX9_isLaterThanAll_0 (by decide) ?_
  refine go_istore_n (pc := 1) (L' := [some (.ref a0), some (.ref a1), some (.int a2), some (.int 0)]) dX9_isLaterThanAll_1 rfl (Nat.le_of_ble_eq_true rfl) rfl ?_
  exact Go.weak (L' := [some (.ref a0), some (.ref a1), some (.int a2), some (.int 0)]) ⟨rfl, ⟨rfl, ⟨rfl, ⟨rfl, trivial⟩⟩⟩⟩ (X9_isLaterThanAll_L2_ok 5000 a0 a1 a2 0 h H)

def M_X9_isLate : MD := (yX9_isLate, cX9_isLate, 1, (some .boolean), 2, 45, 0, 0)
theorem cv_X9_isLate : CVo M_X9_isLate 0 9 := ⟨⟨wd_717, wd_110, ⟨by decide, by decide⟩, by decide +kernel⟩, wd_715, wd_716, _, rfl, rfl⟩
def X9_isLate_B24 (h : Hp) : Option (Int32 × Hp) :=
  rZ 1 h
theorem X9_isLate_B24_ok {hh h' : Hp} {r : Int32}  (h : Hp) (H : X9_isLate_B24 h = some (r, h')) : Go (PM M_X9_isLate hh (some (.int r)) h') M_X9_isLate 24 [none] [] h 0 0 := by
  unfold X9_isLate_B24 at H
  refine go_iconst (pc := 24) (v := 1) dX9_isLate_24 (by decide) ?_
  refine go_goto (pc := 25) (tgt := 29) dX9_isLate_25 (by decide) ?_
  exact go_zret (pc := 29) dX9_isLate_29 rfl ⟨Nat.le_of_ble_eq_true rfl, Nat.le_of_ble_eq_true rfl⟩ H

def X9_isLate (a0 : Nat) (h : Hp) : Option (Int32 × Hp) :=
  (gR h a0 9 3).bind fun v1 =>
  cV h a0 9 (X9_isLaterThanAll a0 v1 0 h) fun v3 h2 =>
  if v3 = 0 then (
    (gR h2 a0 9 6).bind fun v4 =>
    cV h2 a0 9 (X9_isLaterThanAll a0 v4 0 h2) fun v6 h5 =>
    if v6 = 0 then (
      rZ 0 h5)
    else (
      X9_isLate_B24 h5))
  else (
    X9_isLate_B24 h2)
theorem X9_isLate_ok {a0 : Nat} {h h' : Hp} {r : Int32} (H : X9_isLate a0 h = some (r, h')) : Con M_X9_isLate [.ref a0] h (some (.int r)) h' := by
  refine con_of_go (by decide) 0 (L := [some (.ref a0)]) rfl (Nat.le_of_ble_eq_true rfl) ?_
  unfold X9_isLate at H
  refine go_aload_n (pc := 0) dX9_isLate_0 rfl rfl ?_
  refine go_aload_n (pc := 1) dX9_isLate_1 rfl rfl ?_
  refine go_getR (pc := 2) dX9_isLate_2 fl_X9_26 H (fun v1 H => ?_)
  refine go_iconst (pc := 5) (v := 0) dX9_isLate_5 (by decide) ?_
  refine go_cVi (pc := 6) (Mz := M_X9_isLaterThanAll) (as := [.ref v1, .int 0]) (a := a0) (st := []) dX9_isLate_6 wd_718 cv_X9_isLaterThanAll X9_isLaterThanAll_ok rfl rfl ⟨Nat.le_of_ble_eq_true rfl, Nat.le_of_ble_eq_true rfl⟩ (Nat.le_of_ble_eq_true rfl) ⟨rfl, rfl⟩ ⟨Nat.le_of_ble_eq_true rfl, Nat.le_of_ble_eq_true rfl⟩ H (fun v3 h2 H => ?_)
  refine go_if_ne (pc := 9) (tgt := 24) dX9_isLate_9 (by decide) H (fun H => ?_) (fun H => ?_)
  · exact Go.weak (L' := [none]) trivial (X9_isLate_B24_ok h2 H)
  · refine go_aload_n (pc := 12) dX9_isLate_12 rfl rfl ?_
    refine go_aload_n (pc := 13) dX9_isLate_13 rfl rfl ?_
    refine go_getR (pc := 14) dX9_isLate_14 fl_X9_35 H (fun v4 H => ?_)
    refine go_iconst (pc := 17) (v := 0) dX9_isLate_17 (by decide) ?_
    refine go_cVi (pc := 18) (Mz := M_X9_isLaterThanAll) (as := [.ref v4, .int 0]) (a := a0) (st := []) dX9_isLate_18 wd_718 cv_X9_isLaterThanAll X9_isLaterThanAll_ok rfl rfl ⟨Nat.le_of_ble_eq_true rfl, Nat.le_of_ble_eq_true rfl⟩ (Nat.le_of_ble_eq_true rfl) ⟨rfl, rfl⟩ ⟨Nat.le_of_ble_eq_true rfl, Nat.le_of_ble_eq_true rfl⟩ H (fun v6 h5 H => ?_)
    refine go_if_eq (pc := 21) (tgt := 28) dX9_isLate_21 (by decide) H (fun H => ?_) (fun H => ?_)
    · refine go_iconst (pc := 28) (v := 0) dX9_isLate_28 (by decide) ?_
      exact go_zret (pc := 29) dX9_isLate_29 rfl ⟨Nat.le_of_ble_eq_true rfl, Nat.le_of_ble_eq_true rfl⟩ H
    · exact Go.weak (L' := [none]) trivial (X9_isLate_B24_ok h5 H)
