/-! 12.ship: written by wip/whole/gen/all.py -/
theorem dX7_init_0 : decode cX7_init 0 = .ok (.aload_n 0, 1) := by decide +kernel
theorem dX7_init_1 : decode cX7_init 1 = .ok (.invokespecial 3, 3) := by decide +kernel
theorem dX7_init_4 : decode cX7_init 4 = .ok (.return_, 1) := by decide +kernel
theorem dX7_setOut_0 : decode cX7_setOut 0 = .ok (.aload_n 0, 1) := by decide +kernel
theorem dX7_setOut_1 : decode cX7_setOut 1 = .ok (.iload_n 1, 1) := by decide +kernel
theorem dX7_setOut_2 : decode cX7_setOut 2 = .ok (.bipush 100, 2) := by decide +kernel
theorem dX7_setOut_4 : decode cX7_setOut 4 = .ok (.imul, 1) := by decide +kernel
theorem dX7_setOut_5 : decode cX7_setOut 5 = .ok (.bipush 50, 2) := by decide +kernel
theorem dX7_setOut_7 : decode cX7_setOut 7 = .ok (.iadd, 1) := by decide +kernel
theorem dX7_setOut_8 : decode cX7_setOut 8 = .ok (.putfield 9, 3) := by decide +kernel
theorem dX7_setOut_11 : decode cX7_setOut 11 = .ok (.aload_n 0, 1) := by decide +kernel
theorem dX7_setOut_12 : decode cX7_setOut 12 = .ok (.iload_n 2, 1) := by decide +kernel
theorem dX7_setOut_13 : decode cX7_setOut 13 = .ok (.bipush 100, 2) := by decide +kernel
theorem dX7_setOut_15 : decode cX7_setOut 15 = .ok (.imul, 1) := by decide +kernel
theorem dX7_setOut_16 : decode cX7_setOut 16 = .ok (.bipush 50, 2) := by decide +kernel
theorem dX7_setOut_18 : decode cX7_setOut 18 = .ok (.iadd, 1) := by decide +kernel
theorem dX7_setOut_19 : decode cX7_setOut 19 = .ok (.putfield 15, 3) := by decide +kernel
theorem dX7_setOut_22 : decode cX7_setOut 22 = .ok (.aload_n 0, 1) := by decide +kernel
theorem dX7_setOut_23 : decode cX7_setOut 23 = .ok (.aload_n 0, 1) := by decide +kernel
theorem dX7_setOut_24 : decode cX7_setOut 24 = .ok (.getfield 9, 3) := by decide +kernel
theorem dX7_setOut_27 : decode cX7_setOut 27 = .ok (.putfield 18, 3) := by decide +kernel
theorem dX7_setOut_30 : decode cX7_setOut 30 = .ok (.aload_n 0, 1) := by decide +kernel
theorem dX7_setOut_31 : decode cX7_setOut 31 = .ok (.aload_n 0, 1) := by decide +kernel
theorem dX7_setOut_32 : decode cX7_setOut 32 = .ok (.getfield 15, 3) := by decide +kernel
theorem dX7_setOut_35 : decode cX7_setOut 35 = .ok (.putfield 21, 3) := by decide +kernel
theorem dX7_setOut_38 : decode cX7_setOut 38 = .ok (.return_, 1) := by decide +kernel
theorem dX7_go_0 : decode cX7_go 0 = .ok (.iload_n 1, 1) := by decide +kernel
theorem dX7_go_1 : decode cX7_go 1 = .ok (.iconst 1, 1) := by decide +kernel
theorem dX7_go_2 : decode cX7_go 2 = .ok (.if_icmp .ne 7, 3) := by decide +kernel
theorem dX7_go_5 : decode cX7_go 5 = .ok (.iconst 1, 1) := by decide +kernel
theorem dX7_go_6 : decode cX7_go 6 = .ok (.goto 13, 3) := by decide +kernel
theorem dX7_go_9 : decode cX7_go 9 = .ok (.iload_n 1, 1) := by decide +kernel
theorem dX7_go_10 : decode cX7_go 10 = .ok (.iconst 3, 1) := by decide +kernel
theorem dX7_go_11 : decode cX7_go 11 = .ok (.if_icmp .ne 7, 3) := by decide +kernel
theorem dX7_go_14 : decode cX7_go 14 = .ok (.iconst (-1), 1) := by decide +kernel
theorem dX7_go_15 : decode cX7_go 15 = .ok (.goto 4, 3) := by decide +kernel
theorem dX7_go_18 : decode cX7_go 18 = .ok (.iconst 0, 1) := by decide +kernel
theorem dX7_go_19 : decode cX7_go 19 = .ok (.istore 4, 2) := by decide +kernel
theorem dX7_go_21 : decode cX7_go 21 = .ok (.iload_n 1, 1) := by decide +kernel
theorem dX7_go_22 : decode cX7_go 22 = .ok (.ifCond .ne 7, 3) := by decide +kernel
theorem dX7_go_25 : decode cX7_go 25 = .ok (.iconst 1, 1) := by decide +kernel
theorem dX7_go_26 : decode cX7_go 26 = .ok (.goto 13, 3) := by decide +kernel
theorem dX7_go_29 : decode cX7_go 29 = .ok (.iload_n 1, 1) := by decide +kernel
theorem dX7_go_30 : decode cX7_go 30 = .ok (.iconst 2, 1) := by decide +kernel
theorem dX7_go_31 : decode cX7_go 31 = .ok (.if_icmp .ne 7, 3) := by decide +kernel
theorem dX7_go_34 : decode cX7_go 34 = .ok (.iconst (-1), 1) := by decide +kernel
theorem dX7_go_35 : decode cX7_go 35 = .ok (.goto 4, 3) := by decide +kernel
theorem dX7_go_38 : decode cX7_go 38 = .ok (.iconst 0, 1) := by decide +kernel
theorem dX7_go_39 : decode cX7_go 39 = .ok (.istore 5, 2) := by decide +kernel
theorem dX7_go_41 : decode cX7_go 41 = .ok (.aload_n 0, 1) := by decide +kernel
theorem dX7_go_42 : decode cX7_go 42 = .ok (.dup, 1) := by decide +kernel
theorem dX7_go_43 : decode cX7_go 43 = .ok (.getfield 9, 3) := by decide +kernel
theorem dX7_go_46 : decode cX7_go 46 = .ok (.iload 4, 2) := by decide +kernel
theorem dX7_go_48 : decode cX7_go 48 = .ok (.iload_n 2, 1) := by decide +kernel
theorem dX7_go_49 : decode cX7_go 49 = .ok (.imul, 1) := by decide +kernel
theorem dX7_go_50 : decode cX7_go 50 = .ok (.iadd, 1) := by decide +kernel
theorem dX7_go_51 : decode cX7_go 51 = .ok (.putfield 9, 3) := by decide +kernel
theorem dX7_go_54 : decode cX7_go 54 = .ok (.aload_n 0, 1) := by decide +kernel
theorem dX7_go_55 : decode cX7_go 55 = .ok (.dup, 1) := by decide +kernel
theorem dX7_go_56 : decode cX7_go 56 = .ok (.getfield 15, 3) := by decide +kernel
theorem dX7_go_59 : decode cX7_go 59 = .ok (.iload 5, 2) := by decide +kernel
theorem dX7_go_61 : decode cX7_go 61 = .ok (.iload_n 2, 1) := by decide +kernel
theorem dX7_go_62 : decode cX7_go 62 = .ok (.imul, 1) := by decide +kernel
theorem dX7_go_63 : decode cX7_go 63 = .ok (.iadd, 1) := by decide +kernel
theorem dX7_go_64 : decode cX7_go 64 = .ok (.putfield 15, 3) := by decide +kernel
theorem dX7_go_67 : decode cX7_go 67 = .ok (.aload_n 0, 1) := by decide +kernel
theorem dX7_go_68 : decode cX7_go 68 = .ok (.dup, 1) := by decide +kernel
theorem dX7_go_69 : decode cX7_go 69 = .ok (.getfield 18, 3) := by decide +kernel
theorem dX7_go_72 : decode cX7_go 72 = .ok (.iload 4, 2) := by decide +kernel
theorem dX7_go_74 : decode cX7_go 74 = .ok (.iload_n 3, 1) := by decide +kernel
theorem dX7_go_75 : decode cX7_go 75 = .ok (.imul, 1) := by decide +kernel
theorem dX7_go_76 : decode cX7_go 76 = .ok (.iadd, 1) := by decide +kernel
theorem dX7_go_77 : decode cX7_go 77 = .ok (.putfield 18, 3) := by decide +kernel
theorem dX7_go_80 : decode cX7_go 80 = .ok (.aload_n 0, 1) := by decide +kernel
theorem dX7_go_81 : decode cX7_go 81 = .ok (.dup, 1) := by decide +kernel
theorem dX7_go_82 : decode cX7_go 82 = .ok (.getfield 21, 3) := by decide +kernel
theorem dX7_go_85 : decode cX7_go 85 = .ok (.iload 5, 2) := by decide +kernel
theorem dX7_go_87 : decode cX7_go 87 = .ok (.iload_n 3, 1) := by decide +kernel
theorem dX7_go_88 : decode cX7_go 88 = .ok (.imul, 1) := by decide +kernel
theorem dX7_go_89 : decode cX7_go 89 = .ok (.iadd, 1) := by decide +kernel
theorem dX7_go_90 : decode cX7_go 90 = .ok (.putfield 21, 3) := by decide +kernel
theorem dX7_go_93 : decode cX7_go 93 = .ok (.return_, 1) := by decide +kernel
theorem dX7_seeNoon_0 : decode cX7_seeNoon 0 = .ok (.aload_n 0, 1) := by decide +kernel
theorem dX7_seeNoon_1 : decode cX7_seeNoon 1 = .ok (.aload_n 0, 1) := by decide +kernel
theorem dX7_seeNoon_2 : decode cX7_seeNoon 2 = .ok (.getfield 15, 3) := by decide +kernel
theorem dX7_seeNoon_5 : decode cX7_seeNoon 5 = .ok (.putfield 21, 3) := by decide +kernel
theorem dX7_seeNoon_8 : decode cX7_seeNoon 8 = .ok (.return_, 1) := by decide +kernel
theorem dX7_apart_0 : decode cX7_apart 0 = .ok (.aload_n 0, 1) := by decide +kernel
theorem dX7_apart_1 : decode cX7_apart 1 = .ok (.getfield 9, 3) := by decide +kernel
theorem dX7_apart_4 : decode cX7_apart 4 = .ok (.aload_n 0, 1) := by decide +kernel
theorem dX7_apart_5 : decode cX7_apart 5 = .ok (.getfield 18, 3) := by decide +kernel
theorem dX7_apart_8 : decode cX7_apart 8 = .ok (.isub, 1) := by decide +kernel
theorem dX7_apart_9 : decode cX7_apart 9 = .ok (.invokestatic 24, 3) := by decide +kernel
theorem dX7_apart_12 : decode cX7_apart 12 = .ok (.aload_n 0, 1) := by decide +kernel
theorem dX7_apart_13 : decode cX7_apart 13 = .ok (.getfield 15, 3) := by decide +kernel
theorem dX7_apart_16 : decode cX7_apart 16 = .ok (.aload_n 0, 1) := by decide +kernel
theorem dX7_apart_17 : decode cX7_apart 17 = .ok (.getfield 21, 3) := by decide +kernel
theorem dX7_apart_20 : decode cX7_apart 20 = .ok (.isub, 1) := by decide +kernel
theorem dX7_apart_21 : decode cX7_apart 21 = .ok (.invokestatic 24, 3) := by decide +kernel
theorem dX7_apart_24 : decode cX7_apart 24 = .ok (.iadd, 1) := by decide +kernel
theorem dX7_apart_25 : decode cX7_apart 25 = .ok (.ireturn, 1) := by decide +kernel
theorem dX7_squareNumber_0 : decode cX7_squareNumber 0 = .ok (.sipush 1000, 3) := by decide +kernel
theorem dX7_squareNumber_3 : decode cX7_squareNumber 3 = .ok (.iload_n 0, 1) := by decide +kernel
theorem dX7_squareNumber_4 : decode cX7_squareNumber 4 = .ok (.sipush 300, 3) := by decide +kernel
theorem dX7_squareNumber_7 : decode cX7_squareNumber 7 = .ok (.iadd, 1) := by decide +kernel
theorem dX7_squareNumber_8 : decode cX7_squareNumber 8 = .ok (.imul, 1) := by decide +kernel
theorem dX7_squareNumber_9 : decode cX7_squareNumber 9 = .ok (.iload_n 1, 1) := by decide +kernel
theorem dX7_squareNumber_10 : decode cX7_squareNumber 10 = .ok (.iadd, 1) := by decide +kernel
theorem dX7_squareNumber_11 : decode cX7_squareNumber 11 = .ok (.sipush 300, 3) := by decide +kernel
theorem dX7_squareNumber_14 : decode cX7_squareNumber 14 = .ok (.iadd, 1) := by decide +kernel
theorem dX7_squareNumber_15 : decode cX7_squareNumber 15 = .ok (.ireturn, 1) := by decide +kernel
theorem dX7_inSquare_0 : decode cX7_inSquare 0 = .ok (.aload_n 0, 1) := by decide +kernel
theorem dX7_inSquare_1 : decode cX7_inSquare 1 = .ok (.getfield 9, 3) := by decide +kernel
theorem dX7_inSquare_4 : decode cX7_inSquare 4 = .ok (.bipush 100, 2) := by decide +kernel
theorem dX7_inSquare_6 : decode cX7_inSquare 6 = .ok (.invokestatic 30, 3) := by decide +kernel
theorem dX7_inSquare_9 : decode cX7_inSquare 9 = .ok (.aload_n 0, 1) := by decide +kernel
theorem dX7_inSquare_10 : decode cX7_inSquare 10 = .ok (.getfield 15, 3) := by decide +kernel
theorem dX7_inSquare_13 : decode cX7_inSquare 13 = .ok (.bipush 100, 2) := by decide +kernel
theorem dX7_inSquare_15 : decode cX7_inSquare 15 = .ok (.invokestatic 30, 3) := by decide +kernel
theorem dX7_inSquare_18 : decode cX7_inSquare 18 = .ok (.invokestatic 34, 3) := by decide +kernel
theorem dX7_inSquare_21 : decode cX7_inSquare 21 = .ok (.ireturn, 1) := by decide +kernel
theorem dX7_thoughtInSquare_0 : decode cX7_thoughtInSquare 0 = .ok (.aload_n 0, 1) := by decide +kernel
theorem dX7_thoughtInSquare_1 : decode cX7_thoughtInSquare 1 = .ok (.getfield 18, 3) := by decide +kernel
theorem dX7_thoughtInSquare_4 : decode cX7_thoughtInSquare 4 = .ok (.bipush 100, 2) := by decide +kernel
theorem dX7_thoughtInSquare_6 : decode cX7_thoughtInSquare 6 = .ok (.invokestatic 30, 3) := by decide +kernel
theorem dX7_thoughtInSquare_9 : decode cX7_thoughtInSquare 9 = .ok (.aload_n 0, 1) := by decide +kernel
theorem dX7_thoughtInSquare_10 : decode cX7_thoughtInSquare 10 = .ok (.getfield 21, 3) := by decide +kernel
theorem dX7_thoughtInSquare_13 : decode cX7_thoughtInSquare 13 = .ok (.bipush 100, 2) := by decide +kernel
theorem dX7_thoughtInSquare_15 : decode cX7_thoughtInSquare 15 = .ok (.invokestatic 30, 3) := by decide +kernel
theorem dX7_thoughtInSquare_18 : decode cX7_thoughtInSquare 18 = .ok (.invokestatic 34, 3) := by decide +kernel
theorem dX7_thoughtInSquare_21 : decode cX7_thoughtInSquare 21 = .ok (.ireturn, 1) := by decide +kernel
def M_X7_init : MD := (yX7_init, cX7_init, 1, none, 1, 20, 0, 0)
theorem ci_X7_init : CIo M_X7_init 0 := ⟨⟨wd_357, wd_117, ⟨by decide, by decide⟩, by decide +kernel⟩, wd_356, rfl, rfl⟩
def X7_init (a0 : Nat) (h : Hp) : Option (Hp) :=
  some h
theorem X7_init_ok {a0 : Nat} {h h' : Hp} (H : X7_init a0 h = some h') : Con M_X7_init [.ref a0] h none h' := by
  refine con_of_go (by decide) 0 (L := [some (.ref a0)]) rfl (Nat.le_of_ble_eq_true rfl) ?_
  unfold X7_init at H
  refine go_aload_n (pc := 0) dX7_init_0 rfl rfl ?_
  refine go_objInit (pc := 1) dX7_init_1 wd_358 wd_137 wd_138 (Nat.le_of_ble_eq_true rfl) (Nat.le_of_ble_eq_true rfl) ?_
  exact go_vret (pc := 4) dX7_init_4 rfl ⟨Nat.le_of_ble_eq_true rfl, Nat.le_of_ble_eq_true rfl⟩ H

def M_X7_setOut : MD := (yX7_setOut, cX7_setOut, 3, none, 0, 0, 0, 0)
theorem cv_X7_setOut : CVo M_X7_setOut 2 7 := ⟨⟨wd_856, wd_117, ⟨by decide, by decide⟩, by decide +kernel⟩, wd_854, wd_855, _, rfl, rfl⟩
def X7_setOut (a0 : Nat) (a1 : Int32) (a2 : Int32) (h : Hp) : Option (Hp) :=
  (pF h a0 7 0 (.int ((a1 * 100) + 50))).bind fun h1 =>
  (pF h1 a0 7 1 (.int ((a2 * 100) + 50))).bind fun h2 =>
  (gI h2 a0 7 0).bind fun v3 =>
  (pF h2 a0 7 2 (.int v3)).bind fun h4 =>
  (gI h4 a0 7 1).bind fun v5 =>
  (pF h4 a0 7 3 (.int v5)).bind fun h6 =>
  some h6
theorem X7_setOut_ok {a0 : Nat} {a1 : Int32} {a2 : Int32} {h h' : Hp} (H : X7_setOut a0 a1 a2 h = some h') : Con M_X7_setOut [.ref a0, .int a1, .int a2] h none h' := by
  refine con_of_go (by decide) 0 (L := [some (.ref a0), some (.int a1), some (.int a2)]) rfl (Nat.le_of_ble_eq_true rfl) ?_
  unfold X7_setOut at H
  refine go_aload_n (pc := 0) dX7_setOut_0 rfl rfl ?_
  refine go_iload_n (pc := 1) dX7_setOut_1 rfl rfl ?_
  refine go_bipush (pc := 2) (v := 100) dX7_setOut_2 (by decide) ?_
  refine go_imul (pc := 4) dX7_setOut_4 ?_
  refine go_bipush (pc := 5) (v := 50) dX7_setOut_5 (by decide) ?_
  refine go_iadd (pc := 7) dX7_setOut_7 ?_
  refine go_putI (pc := 8) dX7_setOut_8 fs_X7_9 H (fun h1 H => ?_)
  refine go_aload_n (pc := 11) dX7_setOut_11 rfl rfl ?_
  refine go_iload_n (pc := 12) dX7_setOut_12 rfl rfl ?_
  refine go_bipush (pc := 13) (v := 100) dX7_setOut_13 (by decide) ?_
  refine go_imul (pc := 15) dX7_setOut_15 ?_
  refine go_bipush (pc := 16) (v := 50) dX7_setOut_16 (by decide) ?_
  refine go_iadd (pc := 18) dX7_setOut_18 ?_
  refine go_putI (pc := 19) dX7_setOut_19 fs_X7_15 H (fun h2 H => ?_)
  refine go_aload_n (pc := 22) dX7_setOut_22 rfl rfl ?_
  refine go_aload_n (pc := 23) dX7_setOut_23 rfl rfl ?_
  refine go_getI (pc := 24) dX7_setOut_24 fl_X7_9 H (fun v3 H => ?_)
  refine go_putI (pc := 27) dX7_setOut_27 fs_X7_18 H (fun h4 H => ?_)
  refine go_aload_n (pc := 30) dX7_setOut_30 rfl rfl ?_
  refine go_aload_n (pc := 31) dX7_setOut_31 rfl rfl ?_
  refine go_getI (pc := 32) dX7_setOut_32 fl_X7_15 H (fun v5 H => ?_)
  refine go_putI (pc := 35) dX7_setOut_35 fs_X7_21 H (fun h6 H => ?_)
  exact go_vret (pc := 38) dX7_setOut_38 rfl ⟨Nat.le_of_ble_eq_true rfl, Nat.le_of_ble_eq_true rfl⟩ H

def M_X7_go : MD := (yX7_go, cX7_go, 6, none, 0, 0, 0, 0)
theorem cv_X7_go : CVo M_X7_go 3 7 := ⟨⟨wd_860, wd_117, ⟨by decide, by decide⟩, by decide +kernel⟩, wd_858, wd_859, _, rfl, rfl⟩
def X7_go_B39 (a0 : Nat) (a2 : Int32) (a3 : Int32) (a4 : Int32) (s0 : Int32) (h : Hp) : Option (Hp) :=
  (gI h a0 7 0).bind fun v201 =>
  (pF h a0 7 0 (.int (v201 + (a4 * a2)))).bind fun h202 =>
  (gI h202 a0 7 1).bind fun v203 =>
  (pF h202 a0 7 1 (.int (v203 + (s0 * a2)))).bind fun h204 =>
  (gI h204 a0 7 2).bind fun v205 =>
  (pF h204 a0 7 2 (.int (v205 + (a4 * a3)))).bind fun h206 =>
  (gI h206 a0 7 3).bind fun v207 =>
  (pF h206 a0 7 3 (.int (v207 + (s0 * a3)))).bind fun h208 =>
  some h208
theorem X7_go_B39_ok {hh h' : Hp}  (a0 : Nat) (a2 : Int32) (a3 : Int32) (a4 : Int32) (s0 : Int32) (h : Hp) (H : X7_go_B39 a0 a2 a3 a4 s0 h = some h') : Go (PM M_X7_go hh none h') M_X7_go 39 [some (.ref a0), none, some (.int a2), some (.int a3), some (.int a4), none] [.int s0] h 0 0 := by
  unfold X7_go_B39 at H
  refine go_istore (pc := 39) (L' := [some (.ref a0), none, some (.int a2), some (.int a3), some (.int a4), some (.int s0)]) dX7_go_39 (Nat.le_of_ble_eq_true rfl) rfl ?_
  refine go_aload_n (pc := 41) dX7_go_41 rfl rfl ?_
  refine go_dup (pc := 42) dX7_go_42 rfl ?_
  refine go_getI (pc := 43) dX7_go_43 fl_X7_9 H (fun v201 H => ?_)
  refine go_iload (pc := 46) dX7_go_46 rfl ?_
  refine go_iload_n (pc := 48) dX7_go_48 rfl rfl ?_
  refine go_imul (pc := 49) dX7_go_49 ?_
  refine go_iadd (pc := 50) dX7_go_50 ?_
  refine go_putI (pc := 51) dX7_go_51 fs_X7_9 H (fun h202 H => ?_)
  refine go_aload_n (pc := 54) dX7_go_54 rfl rfl ?_
  refine go_dup (pc := 55) dX7_go_55 rfl ?_
  refine go_getI (pc := 56) dX7_go_56 fl_X7_15 H (fun v203 H => ?_)
  refine go_iload (pc := 59) dX7_go_59 rfl ?_
  refine go_iload_n (pc := 61) dX7_go_61 rfl rfl ?_
  refine go_imul (pc := 62) dX7_go_62 ?_
  refine go_iadd (pc := 63) dX7_go_63 ?_
  refine go_putI (pc := 64) dX7_go_64 fs_X7_15 H (fun h204 H => ?_)
  refine go_aload_n (pc := 67) dX7_go_67 rfl rfl ?_
  refine go_dup (pc := 68) dX7_go_68 rfl ?_
  refine go_getI (pc := 69) dX7_go_69 fl_X7_18 H (fun v205 H => ?_)
  refine go_iload (pc := 72) dX7_go_72 rfl ?_
  refine go_iload_n (pc := 74) dX7_go_74 rfl rfl ?_
  refine go_imul (pc := 75) dX7_go_75 ?_
  refine go_iadd (pc := 76) dX7_go_76 ?_
  refine go_putI (pc := 77) dX7_go_77 fs_X7_18 H (fun h206 H => ?_)
  refine go_aload_n (pc := 80) dX7_go_80 rfl rfl ?_
  refine go_dup (pc := 81) dX7_go_81 rfl ?_
  refine go_getI (pc := 82) dX7_go_82 fl_X7_21 H (fun v207 H => ?_)
  refine go_iload (pc := 85) dX7_go_85 rfl ?_
  refine go_iload_n (pc := 87) dX7_go_87 rfl rfl ?_
  refine go_imul (pc := 88) dX7_go_88 ?_
  refine go_iadd (pc := 89) dX7_go_89 ?_
  refine go_putI (pc := 90) dX7_go_90 fs_X7_21 H (fun h208 H => ?_)
  exact go_vret (pc := 93) dX7_go_93 rfl ⟨Nat.le_of_ble_eq_true rfl, Nat.le_of_ble_eq_true rfl⟩ H

def X7_go_B19 (a0 : Nat) (a1 : Int32) (a2 : Int32) (a3 : Int32) (s0 : Int32) (h : Hp) : Option (Hp) :=
  if a1 = 0 then (
    X7_go_B39 a0 a2 a3 s0 1 h)
  else (
    if a1 = 2 then (
      X7_go_B39 a0 a2 a3 s0 (-1) h)
    else (
      X7_go_B39 a0 a2 a3 s0 0 h))
theorem X7_go_B19_ok {hh h' : Hp}  (a0 : Nat) (a1 : Int32) (a2 : Int32) (a3 : Int32) (s0 : Int32) (h : Hp) (H : X7_go_B19 a0 a1 a2 a3 s0 h = some h') : Go (PM M_X7_go hh none h') M_X7_go 19 [some (.ref a0), some (.int a1), some (.int a2), some (.int a3), none, none] [.int s0] h 0 0 := by
  unfold X7_go_B19 at H
  refine go_istore (pc := 19) (L' := [some (.ref a0), some (.int a1), some (.int a2), some (.int a3), some (.int s0), none]) dX7_go_19 (Nat.le_of_ble_eq_true rfl) rfl ?_
  refine go_iload_n (pc := 21) dX7_go_21 rfl rfl ?_
  refine go_if_ne (pc := 22) (tgt := 29) dX7_go_22 (by decide) H (fun H => ?_) (fun H => ?_)
  · refine go_iload_n (pc := 29) dX7_go_29 rfl rfl ?_
    refine go_iconst (pc := 30) (v := 2) dX7_go_30 (by decide) ?_
    refine go_icmp_ne (pc := 31) (tgt := 38) dX7_go_31 (by decide) H (fun H => ?_) (fun H => ?_)
    · refine go_iconst (pc := 38) (v := 0) dX7_go_38 (by decide) ?_
      exact Go.weak (L' := [some (.ref a0), none, some (.int a2), some (.int a3), some (.int s0), none]) ⟨rfl, ⟨rfl, ⟨rfl, ⟨rfl, trivial⟩⟩⟩⟩ (X7_go_B39_ok a0 a2 a3 s0 0 h H)
    · refine go_iconst (pc := 34) (v := (-1)) dX7_go_34 (by decide) ?_
      refine go_goto (pc := 35) (tgt := 39) dX7_go_35 (by decide) ?_
      exact Go.weak (L' := [some (.ref a0), none, some (.int a2), some (.int a3), some (.int s0), none]) ⟨rfl, ⟨rfl, ⟨rfl, ⟨rfl, trivial⟩⟩⟩⟩ (X7_go_B39_ok a0 a2 a3 s0 (-1) h H)
  · refine go_iconst (pc := 25) (v := 1) dX7_go_25 (by decide) ?_
    refine go_goto (pc := 26) (tgt := 39) dX7_go_26 (by decide) ?_
    exact Go.weak (L' := [some (.ref a0), none, some (.int a2), some (.int a3), some (.int s0), none]) ⟨rfl, ⟨rfl, ⟨rfl, ⟨rfl, trivial⟩⟩⟩⟩ (X7_go_B39_ok a0 a2 a3 s0 1 h H)

def X7_go (a0 : Nat) (a1 : Int32) (a2 : Int32) (a3 : Int32) (h : Hp) : Option (Hp) :=
  if a1 = 1 then (
    X7_go_B19 a0 a1 a2 a3 1 h)
  else (
    if a1 = 3 then (
      X7_go_B19 a0 a1 a2 a3 (-1) h)
    else (
      X7_go_B19 a0 a1 a2 a3 0 h))
theorem X7_go_ok {a0 : Nat} {a1 : Int32} {a2 : Int32} {a3 : Int32} {h h' : Hp} (H : X7_go a0 a1 a2 a3 h = some h') : Con M_X7_go [.ref a0, .int a1, .int a2, .int a3] h none h' := by
  refine con_of_go (by decide) 2 (L := [some (.ref a0), some (.int a1), some (.int a2), some (.int a3), none, none]) rfl (Nat.le_of_ble_eq_true rfl) ?_
  unfold X7_go at H
  refine go_iload_n (pc := 0) dX7_go_0 rfl rfl ?_
  refine go_iconst (pc := 1) (v := 1) dX7_go_1 (by decide) ?_
  refine go_icmp_ne (pc := 2) (tgt := 9) dX7_go_2 (by decide) H (fun H => ?_) (fun H => ?_)
  · refine go_iload_n (pc := 9) dX7_go_9 rfl rfl ?_
    refine go_iconst (pc := 10) (v := 3) dX7_go_10 (by decide) ?_
    refine go_icmp_ne (pc := 11) (tgt := 18) dX7_go_11 (by decide) H (fun H => ?_) (fun H => ?_)
    · refine go_iconst (pc := 18) (v := 0) dX7_go_18 (by decide) ?_
      exact Go.weak (L' := [some (.ref a0), some (.int a1), some (.int a2), some (.int a3), none, none]) ⟨rfl, ⟨rfl, ⟨rfl, ⟨rfl, trivial⟩⟩⟩⟩ (X7_go_B19_ok a0 a1 a2 a3 0 h H)
    · refine go_iconst (pc := 14) (v := (-1)) dX7_go_14 (by decide) ?_
      refine go_goto (pc := 15) (tgt := 19) dX7_go_15 (by decide) ?_
      exact Go.weak (L' := [some (.ref a0), some (.int a1), some (.int a2), some (.int a3), none, none]) ⟨rfl, ⟨rfl, ⟨rfl, ⟨rfl, trivial⟩⟩⟩⟩ (X7_go_B19_ok a0 a1 a2 a3 (-1) h H)
  · refine go_iconst (pc := 5) (v := 1) dX7_go_5 (by decide) ?_
    refine go_goto (pc := 6) (tgt := 19) dX7_go_6 (by decide) ?_
    exact Go.weak (L' := [some (.ref a0), some (.int a1), some (.int a2), some (.int a3), none, none]) ⟨rfl, ⟨rfl, ⟨rfl, ⟨rfl, trivial⟩⟩⟩⟩ (X7_go_B19_ok a0 a1 a2 a3 1 h H)

def M_X7_seeNoon : MD := (yX7_seeNoon, cX7_seeNoon, 1, none, 0, 0, 0, 0)
theorem cv_X7_seeNoon : CVo M_X7_seeNoon 0 7 := ⟨⟨wd_868, wd_117, ⟨by decide, by decide⟩, by decide +kernel⟩, wd_866, wd_867, _, rfl, rfl⟩
def X7_seeNoon (a0 : Nat) (h : Hp) : Option (Hp) :=
  (gI h a0 7 1).bind fun v1 =>
  (pF h a0 7 3 (.int v1)).bind fun h2 =>
  some h2
theorem X7_seeNoon_ok {a0 : Nat} {h h' : Hp} (H : X7_seeNoon a0 h = some h') : Con M_X7_seeNoon [.ref a0] h none h' := by
  refine con_of_go (by decide) 0 (L := [some (.ref a0)]) rfl (Nat.le_of_ble_eq_true rfl) ?_
  unfold X7_seeNoon at H
  refine go_aload_n (pc := 0) dX7_seeNoon_0 rfl rfl ?_
  refine go_aload_n (pc := 1) dX7_seeNoon_1 rfl rfl ?_
  refine go_getI (pc := 2) dX7_seeNoon_2 fl_X7_15 H (fun v1 H => ?_)
  refine go_putI (pc := 5) dX7_seeNoon_5 fs_X7_21 H (fun h2 H => ?_)
  exact go_vret (pc := 8) dX7_seeNoon_8 rfl ⟨Nat.le_of_ble_eq_true rfl, Nat.le_of_ble_eq_true rfl⟩ H

def M_X7_apart : MD := (yX7_apart, cX7_apart, 1, (some .int), 1, 20, 0, 0)
theorem cv_X7_apart : CVo M_X7_apart 0 7 := ⟨⟨wd_880, wd_117, ⟨by decide, by decide⟩, by decide +kernel⟩, wd_878, wd_879, _, rfl, rfl⟩
def X7_apart (a0 : Nat) (h : Hp) : Option (Int32 × Hp) :=
  (gI h a0 7 0).bind fun v1 =>
  (gI h a0 7 2).bind fun v2 =>
  bd (J9_abs_0f7a4 (v1 - v2) h) fun v4 h3 =>
  (gI h3 a0 7 1).bind fun v5 =>
  (gI h3 a0 7 3).bind fun v6 =>
  bd (J9_abs_0f7a4 (v5 - v6) h3) fun v8 h7 =>
  some (v4 + v8, h7)
theorem X7_apart_ok {a0 : Nat} {h h' : Hp} {r : Int32} (H : X7_apart a0 h = some (r, h')) : Con M_X7_apart [.ref a0] h (some (.int r)) h' := by
  refine con_of_go (by decide) 0 (L := [some (.ref a0)]) rfl (Nat.le_of_ble_eq_true rfl) ?_
  unfold X7_apart at H
  refine go_aload_n (pc := 0) dX7_apart_0 rfl rfl ?_
  refine go_getI (pc := 1) dX7_apart_1 fl_X7_9 H (fun v1 H => ?_)
  refine go_aload_n (pc := 4) dX7_apart_4 rfl rfl ?_
  refine go_getI (pc := 5) dX7_apart_5 fl_X7_18 H (fun v2 H => ?_)
  refine go_isub (pc := 8) dX7_apart_8 ?_
  refine go_cSi (pc := 9) (Mz := M_J9_abs_0f7a4) (as := [.int (v1 - v2)]) (st := []) dX7_apart_9 wd_881 cs_J9_abs_0f7a4 J9_abs_0f7a4_ok rfl rfl ⟨Nat.le_of_ble_eq_true rfl, Nat.le_of_ble_eq_true rfl⟩ (Nat.le_of_ble_eq_true rfl) ⟨rfl, rfl⟩ ⟨Nat.le_of_ble_eq_true rfl, Nat.le_of_ble_eq_true rfl⟩ H (fun v4 h3 H => ?_)
  refine go_aload_n (pc := 12) dX7_apart_12 rfl rfl ?_
  refine go_getI (pc := 13) dX7_apart_13 fl_X7_15 H (fun v5 H => ?_)
  refine go_aload_n (pc := 16) dX7_apart_16 rfl rfl ?_
  refine go_getI (pc := 17) dX7_apart_17 fl_X7_21 H (fun v6 H => ?_)
  refine go_isub (pc := 20) dX7_apart_20 ?_
  refine go_cSi (pc := 21) (Mz := M_J9_abs_0f7a4) (as := [.int (v5 - v6)]) (st := [.int v4]) dX7_apart_21 wd_881 cs_J9_abs_0f7a4 J9_abs_0f7a4_ok rfl rfl ⟨Nat.le_of_ble_eq_true rfl, Nat.le_of_ble_eq_true rfl⟩ (Nat.le_of_ble_eq_true rfl) ⟨rfl, rfl⟩ ⟨Nat.le_of_ble_eq_true rfl, Nat.le_of_ble_eq_true rfl⟩ H (fun v8 h7 H => ?_)
  refine go_iadd (pc := 24) dX7_apart_24 ?_
  exact go_iret (pc := 25) dX7_apart_25 rfl ⟨Nat.le_of_ble_eq_true rfl, Nat.le_of_ble_eq_true rfl⟩ H

def M_X7_squareNumber : MD := (yX7_squareNumber, cX7_squareNumber, 2, (some .int), 0, 0, 0, 0)
theorem cs_X7_squareNumber : CSo M_X7_squareNumber 2 := ⟨⟨wd_697, wd_117, ⟨by decide, by decide⟩, by decide +kernel⟩, wd_696⟩
def X7_squareNumber (a0 : Int32) (a1 : Int32) (h : Hp) : Option (Int32 × Hp) :=
  some (((1000 * (a0 + 300)) + a1) + 300, h)
theorem X7_squareNumber_ok {a0 : Int32} {a1 : Int32} {h h' : Hp} {r : Int32} (H : X7_squareNumber a0 a1 h = some (r, h')) : Con M_X7_squareNumber [.int a0, .int a1] h (some (.int r)) h' := by
  refine con_of_go (by decide) 0 (L := [some (.int a0), some (.int a1)]) rfl (Nat.le_of_ble_eq_true rfl) ?_
  unfold X7_squareNumber at H
  refine go_sipush (pc := 0) (v := 1000) dX7_squareNumber_0 (by decide) ?_
  refine go_iload_n (pc := 3) dX7_squareNumber_3 rfl rfl ?_
  refine go_sipush (pc := 4) (v := 300) dX7_squareNumber_4 (by decide) ?_
  refine go_iadd (pc := 7) dX7_squareNumber_7 ?_
  refine go_imul (pc := 8) dX7_squareNumber_8 ?_
  refine go_iload_n (pc := 9) dX7_squareNumber_9 rfl rfl ?_
  refine go_iadd (pc := 10) dX7_squareNumber_10 ?_
  refine go_sipush (pc := 11) (v := 300) dX7_squareNumber_11 (by decide) ?_
  refine go_iadd (pc := 14) dX7_squareNumber_14 ?_
  exact go_iret (pc := 15) dX7_squareNumber_15 rfl ⟨Nat.le_of_ble_eq_true rfl, Nat.le_of_ble_eq_true rfl⟩ H

def M_X7_inSquare : MD := (yX7_inSquare, cX7_inSquare, 1, (some .int), 1, 22, 0, 0)
theorem cv_X7_inSquare : CVo M_X7_inSquare 0 7 := ⟨⟨wd_897, wd_117, ⟨by decide, by decide⟩, by decide +kernel⟩, wd_895, wd_896, _, rfl, rfl⟩
def X7_inSquare (a0 : Nat) (h : Hp) : Option (Int32 × Hp) :=
  (gI h a0 7 0).bind fun v1 =>
  bd (J9_floorDiv_7cf53 v1 100 h) fun v3 h2 =>
  (gI h2 a0 7 1).bind fun v4 =>
  bd (J9_floorDiv_7cf53 v4 100 h2) fun v6 h5 =>
  bd (X7_squareNumber v3 v6 h5) fun v8 h7 =>
  some (v8, h7)
theorem X7_inSquare_ok {a0 : Nat} {h h' : Hp} {r : Int32} (H : X7_inSquare a0 h = some (r, h')) : Con M_X7_inSquare [.ref a0] h (some (.int r)) h' := by
  refine con_of_go (by decide) 0 (L := [some (.ref a0)]) rfl (Nat.le_of_ble_eq_true rfl) ?_
  unfold X7_inSquare at H
  refine go_aload_n (pc := 0) dX7_inSquare_0 rfl rfl ?_
  refine go_getI (pc := 1) dX7_inSquare_1 fl_X7_9 H (fun v1 H => ?_)
  refine go_bipush (pc := 4) (v := 100) dX7_inSquare_4 (by decide) ?_
  refine go_cSi (pc := 6) (Mz := M_J9_floorDiv_7cf53) (as := [.int v1, .int 100]) (st := []) dX7_inSquare_6 wd_898 cs_J9_floorDiv_7cf53 J9_floorDiv_7cf53_ok rfl rfl ⟨Nat.le_of_ble_eq_true rfl, Nat.le_of_ble_eq_true rfl⟩ (Nat.le_of_ble_eq_true rfl) ⟨rfl, rfl⟩ ⟨Nat.le_of_ble_eq_true rfl, Nat.le_of_ble_eq_true rfl⟩ H (fun v3 h2 H => ?_)
  refine go_aload_n (pc := 9) dX7_inSquare_9 rfl rfl ?_
  refine go_getI (pc := 10) dX7_inSquare_10 fl_X7_15 H (fun v4 H => ?_)
  refine go_bipush (pc := 13) (v := 100) dX7_inSquare_13 (by decide) ?_
  refine go_cSi (pc := 15) (Mz := M_J9_floorDiv_7cf53) (as := [.int v4, .int 100]) (st := [.int v3]) dX7_inSquare_15 wd_898 cs_J9_floorDiv_7cf53 J9_floorDiv_7cf53_ok rfl rfl ⟨Nat.le_of_ble_eq_true rfl, Nat.le_of_ble_eq_true rfl⟩ (Nat.le_of_ble_eq_true rfl) ⟨rfl, rfl⟩ ⟨Nat.le_of_ble_eq_true rfl, Nat.le_of_ble_eq_true rfl⟩ H (fun v6 h5 H => ?_)
  refine go_cSi (pc := 18) (Mz := M_X7_squareNumber) (as := [.int v3, .int v6]) (st := []) dX7_inSquare_18 wd_901 cs_X7_squareNumber X7_squareNumber_ok rfl rfl ⟨Nat.le_of_ble_eq_true rfl, Nat.le_of_ble_eq_true rfl⟩ (Nat.le_of_ble_eq_true rfl) ⟨rfl, rfl⟩ ⟨Nat.le_of_ble_eq_true rfl, Nat.le_of_ble_eq_true rfl⟩ H (fun v8 h7 H => ?_)
  exact go_iret (pc := 21) dX7_inSquare_21 rfl ⟨Nat.le_of_ble_eq_true rfl, Nat.le_of_ble_eq_true rfl⟩ H

def M_X7_thoughtInSquare : MD := (yX7_thoughtInSquare, cX7_thoughtInSquare, 1, (some .int), 1, 22, 0, 0)
theorem cv_X7_thoughtInSquare : CVo M_X7_thoughtInSquare 0 7 := ⟨⟨wd_909, wd_117, ⟨by decide, by decide⟩, by decide +kernel⟩, wd_907, wd_908, _, rfl, rfl⟩
def X7_thoughtInSquare (a0 : Nat) (h : Hp) : Option (Int32 × Hp) :=
  (gI h a0 7 2).bind fun v1 =>
  bd (J9_floorDiv_7cf53 v1 100 h) fun v3 h2 =>
  (gI h2 a0 7 3).bind fun v4 =>
  bd (J9_floorDiv_7cf53 v4 100 h2) fun v6 h5 =>
  bd (X7_squareNumber v3 v6 h5) fun v8 h7 =>
  some (v8, h7)
theorem X7_thoughtInSquare_ok {a0 : Nat} {h h' : Hp} {r : Int32} (H : X7_thoughtInSquare a0 h = some (r, h')) : Con M_X7_thoughtInSquare [.ref a0] h (some (.int r)) h' := by
  refine con_of_go (by decide) 0 (L := [some (.ref a0)]) rfl (Nat.le_of_ble_eq_true rfl) ?_
  unfold X7_thoughtInSquare at H
  refine go_aload_n (pc := 0) dX7_thoughtInSquare_0 rfl rfl ?_
  refine go_getI (pc := 1) dX7_thoughtInSquare_1 fl_X7_18 H (fun v1 H => ?_)
  refine go_bipush (pc := 4) (v := 100) dX7_thoughtInSquare_4 (by decide) ?_
  refine go_cSi (pc := 6) (Mz := M_J9_floorDiv_7cf53) (as := [.int v1, .int 100]) (st := []) dX7_thoughtInSquare_6 wd_898 cs_J9_floorDiv_7cf53 J9_floorDiv_7cf53_ok rfl rfl ⟨Nat.le_of_ble_eq_true rfl, Nat.le_of_ble_eq_true rfl⟩ (Nat.le_of_ble_eq_true rfl) ⟨rfl, rfl⟩ ⟨Nat.le_of_ble_eq_true rfl, Nat.le_of_ble_eq_true rfl⟩ H (fun v3 h2 H => ?_)
  refine go_aload_n (pc := 9) dX7_thoughtInSquare_9 rfl rfl ?_
  refine go_getI (pc := 10) dX7_thoughtInSquare_10 fl_X7_21 H (fun v4 H => ?_)
  refine go_bipush (pc := 13) (v := 100) dX7_thoughtInSquare_13 (by decide) ?_
  refine go_cSi (pc := 15) (Mz := M_J9_floorDiv_7cf53) (as := [.int v4, .int 100]) (st := [.int v3]) dX7_thoughtInSquare_15 wd_898 cs_J9_floorDiv_7cf53 J9_floorDiv_7cf53_ok rfl rfl ⟨Nat.le_of_ble_eq_true rfl, Nat.le_of_ble_eq_true rfl⟩ (Nat.le_of_ble_eq_true rfl) ⟨rfl, rfl⟩ ⟨Nat.le_of_ble_eq_true rfl, Nat.le_of_ble_eq_true rfl⟩ H (fun v6 h5 H => ?_)
  refine go_cSi (pc := 18) (Mz := M_X7_squareNumber) (as := [.int v3, .int v6]) (st := []) dX7_thoughtInSquare_18 wd_901 cs_X7_squareNumber X7_squareNumber_ok rfl rfl ⟨Nat.le_of_ble_eq_true rfl, Nat.le_of_ble_eq_true rfl⟩ (Nat.le_of_ble_eq_true rfl) ⟨rfl, rfl⟩ ⟨Nat.le_of_ble_eq_true rfl, Nat.le_of_ble_eq_true rfl⟩ H (fun v8 h7 H => ?_)
  exact go_iret (pc := 21) dX7_thoughtInSquare_21 rfl ⟨Nat.le_of_ble_eq_true rfl, Nat.le_of_ble_eq_true rfl⟩ H
