/-! 16.acts: written by wip/whole/gen/all.py -/
theorem dX0_init_0 : decode cX0_init 0 = .ok (.aload_n 0, 1) := by decide +kernel
theorem dX0_init_1 : decode cX0_init 1 = .ok (.invokespecial 3, 3) := by decide +kernel
theorem dX0_init_4 : decode cX0_init 4 = .ok (.aload_n 0, 1) := by decide +kernel
theorem dX0_init_5 : decode cX0_init 5 = .ok (.new 9, 3) := by decide +kernel
theorem dX0_init_8 : decode cX0_init 8 = .ok (.dup, 1) := by decide +kernel
theorem dX0_init_9 : decode cX0_init 9 = .ok (.bipush 16, 2) := by decide +kernel
theorem dX0_init_11 : decode cX0_init 11 = .ok (.iconst 3, 1) := by decide +kernel
theorem dX0_init_12 : decode cX0_init 12 = .ok (.invokespecial 11, 3) := by decide +kernel
theorem dX0_init_15 : decode cX0_init 15 = .ok (.putfield 14, 3) := by decide +kernel
theorem dX0_init_18 : decode cX0_init 18 = .ok (.return_, 1) := by decide +kernel
theorem dX0_make_0 : decode cX0_make 0 = .ok (.aload_n 0, 1) := by decide +kernel
theorem dX0_make_1 : decode cX0_make 1 = .ok (.getfield 14, 3) := by decide +kernel
theorem dX0_make_4 : decode cX0_make 4 = .ok (.aload_n 0, 1) := by decide +kernel
theorem dX0_make_5 : decode cX0_make 5 = .ok (.getfield 20, 3) := by decide +kernel
theorem dX0_make_8 : decode cX0_make 8 = .ok (.iconst 0, 1) := by decide +kernel
theorem dX0_make_9 : decode cX0_make 9 = .ok (.iload_n 2, 1) := by decide +kernel
theorem dX0_make_10 : decode cX0_make 10 = .ok (.invokevirtual 24, 3) := by decide +kernel
theorem dX0_make_13 : decode cX0_make 13 = .ok (.aload_n 0, 1) := by decide +kernel
theorem dX0_make_14 : decode cX0_make 14 = .ok (.getfield 14, 3) := by decide +kernel
theorem dX0_make_17 : decode cX0_make 17 = .ok (.aload_n 0, 1) := by decide +kernel
theorem dX0_make_18 : decode cX0_make 18 = .ok (.getfield 20, 3) := by decide +kernel
theorem dX0_make_21 : decode cX0_make 21 = .ok (.iconst 1, 1) := by decide +kernel
theorem dX0_make_22 : decode cX0_make 22 = .ok (.iload_n 3, 1) := by decide +kernel
theorem dX0_make_23 : decode cX0_make 23 = .ok (.invokevirtual 24, 3) := by decide +kernel
theorem dX0_make_26 : decode cX0_make 26 = .ok (.aload_n 0, 1) := by decide +kernel
theorem dX0_make_27 : decode cX0_make 27 = .ok (.getfield 14, 3) := by decide +kernel
theorem dX0_make_30 : decode cX0_make 30 = .ok (.aload_n 0, 1) := by decide +kernel
theorem dX0_make_31 : decode cX0_make 31 = .ok (.getfield 20, 3) := by decide +kernel
theorem dX0_make_34 : decode cX0_make 34 = .ok (.iconst 2, 1) := by decide +kernel
theorem dX0_make_35 : decode cX0_make 35 = .ok (.aload_n 1, 1) := by decide +kernel
theorem dX0_make_36 : decode cX0_make 36 = .ok (.getfield 28, 3) := by decide +kernel
theorem dX0_make_39 : decode cX0_make 39 = .ok (.iload_n 2, 1) := by decide +kernel
theorem dX0_make_40 : decode cX0_make 40 = .ok (.iload_n 3, 1) := by decide +kernel
theorem dX0_make_41 : decode cX0_make 41 = .ok (.invokevirtual 33, 3) := by decide +kernel
theorem dX0_make_44 : decode cX0_make 44 = .ok (.invokevirtual 24, 3) := by decide +kernel
theorem dX0_make_47 : decode cX0_make 47 = .ok (.aload_n 0, 1) := by decide +kernel
theorem dX0_make_48 : decode cX0_make 48 = .ok (.aload_n 0, 1) := by decide +kernel
theorem dX0_make_49 : decode cX0_make 49 = .ok (.getfield 20, 3) := by decide +kernel
theorem dX0_make_52 : decode cX0_make 52 = .ok (.iconst 1, 1) := by decide +kernel
theorem dX0_make_53 : decode cX0_make 53 = .ok (.iadd, 1) := by decide +kernel
theorem dX0_make_54 : decode cX0_make 54 = .ok (.bipush 16, 2) := by decide +kernel
theorem dX0_make_56 : decode cX0_make 56 = .ok (.irem, 1) := by decide +kernel
theorem dX0_make_57 : decode cX0_make 57 = .ok (.putfield 20, 3) := by decide +kernel
theorem dX0_make_60 : decode cX0_make 60 = .ok (.aload_n 0, 1) := by decide +kernel
theorem dX0_make_61 : decode cX0_make 61 = .ok (.aload_n 0, 1) := by decide +kernel
theorem dX0_make_62 : decode cX0_make 62 = .ok (.getfield 37, 3) := by decide +kernel
theorem dX0_make_65 : decode cX0_make 65 = .ok (.iconst 1, 1) := by decide +kernel
theorem dX0_make_66 : decode cX0_make 66 = .ok (.iadd, 1) := by decide +kernel
theorem dX0_make_67 : decode cX0_make 67 = .ok (.bipush 16, 2) := by decide +kernel
theorem dX0_make_69 : decode cX0_make 69 = .ok (.invokestatic 40, 3) := by decide +kernel
theorem dX0_make_72 : decode cX0_make 72 = .ok (.putfield 37, 3) := by decide +kernel
theorem dX0_make_75 : decode cX0_make 75 = .ok (.aload_n 1, 1) := by decide +kernel
theorem dX0_make_76 : decode cX0_make 76 = .ok (.getfield 28, 3) := by decide +kernel
theorem dX0_make_79 : decode cX0_make 79 = .ok (.iload_n 2, 1) := by decide +kernel
theorem dX0_make_80 : decode cX0_make 80 = .ok (.iload_n 3, 1) := by decide +kernel
theorem dX0_make_81 : decode cX0_make 81 = .ok (.iload 4, 2) := by decide +kernel
theorem dX0_make_83 : decode cX0_make 83 = .ok (.invokevirtual 24, 3) := by decide +kernel
theorem dX0_make_86 : decode cX0_make 86 = .ok (.return_, 1) := by decide +kernel
theorem dX0_takeBack_0 : decode cX0_takeBack 0 = .ok (.aload_n 0, 1) := by decide +kernel
theorem dX0_takeBack_1 : decode cX0_takeBack 1 = .ok (.aload_n 0, 1) := by decide +kernel
theorem dX0_takeBack_2 : decode cX0_takeBack 2 = .ok (.getfield 20, 3) := by decide +kernel
theorem dX0_takeBack_5 : decode cX0_takeBack 5 = .ok (.bipush 16, 2) := by decide +kernel
theorem dX0_takeBack_7 : decode cX0_takeBack 7 = .ok (.iadd, 1) := by decide +kernel
theorem dX0_takeBack_8 : decode cX0_takeBack 8 = .ok (.iconst 1, 1) := by decide +kernel
theorem dX0_takeBack_9 : decode cX0_takeBack 9 = .ok (.isub, 1) := by decide +kernel
theorem dX0_takeBack_10 : decode cX0_takeBack 10 = .ok (.bipush 16, 2) := by decide +kernel
theorem dX0_takeBack_12 : decode cX0_takeBack 12 = .ok (.irem, 1) := by decide +kernel
theorem dX0_takeBack_13 : decode cX0_takeBack 13 = .ok (.putfield 20, 3) := by decide +kernel
theorem dX0_takeBack_16 : decode cX0_takeBack 16 = .ok (.aload_n 0, 1) := by decide +kernel
theorem dX0_takeBack_17 : decode cX0_takeBack 17 = .ok (.aload_n 0, 1) := by decide +kernel
theorem dX0_takeBack_18 : decode cX0_takeBack 18 = .ok (.getfield 37, 3) := by decide +kernel
theorem dX0_takeBack_21 : decode cX0_takeBack 21 = .ok (.iconst 1, 1) := by decide +kernel
theorem dX0_takeBack_22 : decode cX0_takeBack 22 = .ok (.isub, 1) := by decide +kernel
theorem dX0_takeBack_23 : decode cX0_takeBack 23 = .ok (.iconst 0, 1) := by decide +kernel
theorem dX0_takeBack_24 : decode cX0_takeBack 24 = .ok (.invokestatic 45, 3) := by decide +kernel
theorem dX0_takeBack_27 : decode cX0_takeBack 27 = .ok (.putfield 37, 3) := by decide +kernel
theorem dX0_takeBack_30 : decode cX0_takeBack 30 = .ok (.aload_n 1, 1) := by decide +kernel
theorem dX0_takeBack_31 : decode cX0_takeBack 31 = .ok (.getfield 28, 3) := by decide +kernel
theorem dX0_takeBack_34 : decode cX0_takeBack 34 = .ok (.aload_n 0, 1) := by decide +kernel
theorem dX0_takeBack_35 : decode cX0_takeBack 35 = .ok (.getfield 14, 3) := by decide +kernel
theorem dX0_takeBack_38 : decode cX0_takeBack 38 = .ok (.aload_n 0, 1) := by decide +kernel
theorem dX0_takeBack_39 : decode cX0_takeBack 39 = .ok (.getfield 20, 3) := by decide +kernel
theorem dX0_takeBack_42 : decode cX0_takeBack 42 = .ok (.iconst 0, 1) := by decide +kernel
theorem dX0_takeBack_43 : decode cX0_takeBack 43 = .ok (.invokevirtual 33, 3) := by decide +kernel
theorem dX0_takeBack_46 : decode cX0_takeBack 46 = .ok (.aload_n 0, 1) := by decide +kernel
theorem dX0_takeBack_47 : decode cX0_takeBack 47 = .ok (.getfield 14, 3) := by decide +kernel
theorem dX0_takeBack_50 : decode cX0_takeBack 50 = .ok (.aload_n 0, 1) := by decide +kernel
theorem dX0_takeBack_51 : decode cX0_takeBack 51 = .ok (.getfield 20, 3) := by decide +kernel
theorem dX0_takeBack_54 : decode cX0_takeBack 54 = .ok (.iconst 1, 1) := by decide +kernel
theorem dX0_takeBack_55 : decode cX0_takeBack 55 = .ok (.invokevirtual 33, 3) := by decide +kernel
theorem dX0_takeBack_58 : decode cX0_takeBack 58 = .ok (.aload_n 0, 1) := by decide +kernel
theorem dX0_takeBack_59 : decode cX0_takeBack 59 = .ok (.getfield 14, 3) := by decide +kernel
theorem dX0_takeBack_62 : decode cX0_takeBack 62 = .ok (.aload_n 0, 1) := by decide +kernel
theorem dX0_takeBack_63 : decode cX0_takeBack 63 = .ok (.getfield 20, 3) := by decide +kernel
theorem dX0_takeBack_66 : decode cX0_takeBack 66 = .ok (.iconst 2, 1) := by decide +kernel
theorem dX0_takeBack_67 : decode cX0_takeBack 67 = .ok (.invokevirtual 33, 3) := by decide +kernel
theorem dX0_takeBack_70 : decode cX0_takeBack 70 = .ok (.invokevirtual 24, 3) := by decide +kernel
theorem dX0_takeBack_73 : decode cX0_takeBack 73 = .ok (.return_, 1) := by decide +kernel
theorem dX0_forget_0 : decode cX0_forget 0 = .ok (.aload_n 0, 1) := by decide +kernel
theorem dX0_forget_1 : decode cX0_forget 1 = .ok (.iconst 0, 1) := by decide +kernel
theorem dX0_forget_2 : decode cX0_forget 2 = .ok (.putfield 37, 3) := by decide +kernel
theorem dX0_forget_5 : decode cX0_forget 5 = .ok (.return_, 1) := by decide +kernel
def M_X0_init : MD := (yX0_init, cX0_init, 1, none, 2, 43, 2, 52)
theorem ci_X0_init : CIo M_X0_init 0 := ⟨⟨wd_332, wd_115, ⟨by decide, by decide⟩, by decide +kernel⟩, wd_331, rfl, rfl⟩
def X0_init (a0 : Nat) (h : Hp) : Option (Hp) :=
  pin (nw h (.inr (8, [.int 0, .int 0, .null, .int 0]))) fun h1 =>
  (X8_init h.1 16 3 h1).bind fun h2 =>
  (pF h2 a0 0 0 (.ref h.1)).bind fun h3 =>
  some h3
theorem X0_init_ok {a0 : Nat} {h h' : Hp} (H : X0_init a0 h = some h') : Con M_X0_init [.ref a0] h none h' := by
  refine con_of_go (by decide) 0 (L := [some (.ref a0)]) rfl (Nat.le_of_ble_eq_true rfl) ?_
  unfold X0_init at H
  refine go_aload_n (pc := 0) dX0_init_0 rfl rfl ?_
  refine go_objInit (pc := 1) dX0_init_1 wd_333 wd_137 wd_138 (Nat.le_of_ble_eq_true rfl) (Nat.le_of_ble_eq_true rfl) ?_
  refine go_aload_n (pc := 4) dX0_init_4 rfl rfl ?_
  refine go_new (pc := 5) dX0_init_5 nl_X0_9 (Nat.le_of_ble_eq_true rfl) (Nat.le_of_ble_eq_true rfl) ?_
  refine go_pinH H (fun h1 H => ?_)
  refine go_dup (pc := 8) dX0_init_8 rfl ?_
  refine go_bipush (pc := 9) (v := 16) dX0_init_9 (by decide) ?_
  refine go_iconst (pc := 11) (v := 3) dX0_init_11 (by decide) ?_
  refine go_cIv (pc := 12) (Mz := M_X8_init) (as := [.int 16, .int 3]) (a := h.1) (st := [.ref h.1, .ref a0]) dX0_init_12 wd_335 ci_X8_init X8_init_ok rfl rfl ⟨Nat.le_of_ble_eq_true rfl, Nat.le_of_ble_eq_true rfl⟩ (Nat.le_of_ble_eq_true rfl) ⟨Nat.le_of_ble_eq_true rfl, Nat.le_of_ble_eq_true rfl⟩ H (fun h2 H => ?_)
  refine go_putRF (pc := 15) dX0_init_15 fs_X0_14 ⟨rfl, _, rfl, rfl⟩ H (fun h3 H => ?_)
  exact go_vret (pc := 18) dX0_init_18 rfl ⟨Nat.le_of_ble_eq_true rfl, Nat.le_of_ble_eq_true rfl⟩ H

def M_X0_make : MD := (yX0_make, cX0_make, 5, none, 1, 23, 0, 0)
theorem cv_X0_make : CVo M_X0_make 4 0 := ⟨⟨wd_1207, wd_115, ⟨by decide, by decide⟩, by decide +kernel⟩, wd_1205, wd_1206, _, rfl, rfl⟩
def X0_make (a0 : Nat) (a1 : Nat) (a2 : Int32) (a3 : Int32) (a4 : Int32) (h : Hp) : Option (Hp) :=
  (gR h a0 0 0).bind fun v1 =>
  (gI h a0 0 1).bind fun v2 =>
  cVv h v1 8 (X8_put v1 v2 0 a2 h) fun h3 =>
  (gR h3 a0 0 0).bind fun v4 =>
  (gI h3 a0 0 1).bind fun v5 =>
  cVv h3 v4 8 (X8_put v4 v5 1 a3 h3) fun h6 =>
  (gR h6 a0 0 0).bind fun v7 =>
  (gI h6 a0 0 1).bind fun v8 =>
  (gR h6 a1 4 0).bind fun v9 =>
  cV h6 v9 8 (X8_cell v9 a2 a3 h6) fun v11 h10 =>
  cVv h10 v7 8 (X8_put v7 v8 2 v11 h10) fun h12 =>
  (gI h12 a0 0 1).bind fun v13 =>
  (pF h12 a0 0 1 (.int ((v13 + 1) - (v13 + 1) / 16 * 16))).bind fun h14 =>
  (gI h14 a0 0 2).bind fun v15 =>
  bd (J9_min_7cf53 (v15 + 1) 16 h14) fun v17 h16 =>
  (pF h16 a0 0 2 (.int v17)).bind fun h18 =>
  (gR h18 a1 4 0).bind fun v19 =>
  cVv h18 v19 8 (X8_put v19 a2 a3 a4 h18) fun h20 =>
  some h20
theorem X0_make_ok {a0 : Nat} {a1 : Nat} {a2 : Int32} {a3 : Int32} {a4 : Int32} {h h' : Hp} (H : X0_make a0 a1 a2 a3 a4 h = some h') : Con M_X0_make [.ref a0, .ref a1, .int a2, .int a3, .int a4] h none h' := by
  refine con_of_go (by decide) 0 (L := [some (.ref a0), some (.ref a1), some (.int a2), some (.int a3), some (.int a4)]) rfl (Nat.le_of_ble_eq_true rfl) ?_
  unfold X0_make at H
  refine go_aload_n (pc := 0) dX0_make_0 rfl rfl ?_
  refine go_getR (pc := 1) dX0_make_1 fl_X0_14 H (fun v1 H => ?_)
  refine go_aload_n (pc := 4) dX0_make_4 rfl rfl ?_
  refine go_getI (pc := 5) dX0_make_5 fl_X0_20 H (fun v2 H => ?_)
  refine go_iconst (pc := 8) (v := 0) dX0_make_8 (by decide) ?_
  refine go_iload_n (pc := 9) dX0_make_9 rfl rfl ?_
  refine go_cVv (pc := 10) (Mz := M_X8_put) (as := [.int v2, .int 0, .int a2]) (a := v1) (st := []) dX0_make_10 wd_1208 cv_X8_put X8_put_ok rfl rfl ⟨Nat.le_of_ble_eq_true rfl, Nat.le_of_ble_eq_true rfl⟩ (Nat.le_of_ble_eq_true rfl) ⟨rfl, rfl⟩ ⟨Nat.le_of_ble_eq_true rfl, Nat.le_of_ble_eq_true rfl⟩ H (fun h3 H => ?_)
  refine go_aload_n (pc := 13) dX0_make_13 rfl rfl ?_
  refine go_getR (pc := 14) dX0_make_14 fl_X0_14 H (fun v4 H => ?_)
  refine go_aload_n (pc := 17) dX0_make_17 rfl rfl ?_
  refine go_getI (pc := 18) dX0_make_18 fl_X0_20 H (fun v5 H => ?_)
  refine go_iconst (pc := 21) (v := 1) dX0_make_21 (by decide) ?_
  refine go_iload_n (pc := 22) dX0_make_22 rfl rfl ?_
  refine go_cVv (pc := 23) (Mz := M_X8_put) (as := [.int v5, .int 1, .int a3]) (a := v4) (st := []) dX0_make_23 wd_1208 cv_X8_put X8_put_ok rfl rfl ⟨Nat.le_of_ble_eq_true rfl, Nat.le_of_ble_eq_true rfl⟩ (Nat.le_of_ble_eq_true rfl) ⟨rfl, rfl⟩ ⟨Nat.le_of_ble_eq_true rfl, Nat.le_of_ble_eq_true rfl⟩ H (fun h6 H => ?_)
  refine go_aload_n (pc := 26) dX0_make_26 rfl rfl ?_
  refine go_getR (pc := 27) dX0_make_27 fl_X0_14 H (fun v7 H => ?_)
  refine go_aload_n (pc := 30) dX0_make_30 rfl rfl ?_
  refine go_getI (pc := 31) dX0_make_31 fl_X0_20 H (fun v8 H => ?_)
  refine go_iconst (pc := 34) (v := 2) dX0_make_34 (by decide) ?_
  refine go_aload_n (pc := 35) dX0_make_35 rfl rfl ?_
  refine go_getR (pc := 36) dX0_make_36 fl_X0_28 H (fun v9 H => ?_)
  refine go_iload_n (pc := 39) dX0_make_39 rfl rfl ?_
  refine go_iload_n (pc := 40) dX0_make_40 rfl rfl ?_
  refine go_cVi (pc := 41) (Mz := M_X8_cell) (as := [.int a2, .int a3]) (a := v9) (st := [.int 2, .int v8, .ref v7]) dX0_make_41 wd_1209 cv_X8_cell X8_cell_ok rfl rfl ⟨Nat.le_of_ble_eq_true rfl, Nat.le_of_ble_eq_true rfl⟩ (Nat.le_of_ble_eq_true rfl) ⟨rfl, rfl⟩ ⟨Nat.le_of_ble_eq_true rfl, Nat.le_of_ble_eq_true rfl⟩ H (fun v11 h10 H => ?_)
  refine go_cVv (pc := 44) (Mz := M_X8_put) (as := [.int v8, .int 2, .int v11]) (a := v7) (st := []) dX0_make_44 wd_1208 cv_X8_put X8_put_ok rfl rfl ⟨Nat.le_of_ble_eq_true rfl, Nat.le_of_ble_eq_true rfl⟩ (Nat.le_of_ble_eq_true rfl) ⟨rfl, rfl⟩ ⟨Nat.le_of_ble_eq_true rfl, Nat.le_of_ble_eq_true rfl⟩ H (fun h12 H => ?_)
  refine go_aload_n (pc := 47) dX0_make_47 rfl rfl ?_
  refine go_aload_n (pc := 48) dX0_make_48 rfl rfl ?_
  refine go_getI (pc := 49) dX0_make_49 fl_X0_20 H (fun v13 H => ?_)
  refine go_iconst (pc := 52) (v := 1) dX0_make_52 (by decide) ?_
  refine go_iadd (pc := 53) dX0_make_53 ?_
  refine go_bipush (pc := 54) (v := 16) dX0_make_54 (by decide) ?_
  refine go_irem (pc := 56) dX0_make_56 (by decide) ?_
  refine go_putI (pc := 57) dX0_make_57 fs_X0_20 H (fun h14 H => ?_)
  refine go_aload_n (pc := 60) dX0_make_60 rfl rfl ?_
  refine go_aload_n (pc := 61) dX0_make_61 rfl rfl ?_
  refine go_getI (pc := 62) dX0_make_62 fl_X0_37 H (fun v15 H => ?_)
  refine go_iconst (pc := 65) (v := 1) dX0_make_65 (by decide) ?_
  refine go_iadd (pc := 66) dX0_make_66 ?_
  refine go_bipush (pc := 67) (v := 16) dX0_make_67 (by decide) ?_
  refine go_cSi (pc := 69) (Mz := M_J9_min_7cf53) (as := [.int (v15 + 1), .int 16]) (st := [.ref a0]) dX0_make_69 wd_1210 cs_J9_min_7cf53 J9_min_7cf53_ok rfl rfl ⟨Nat.le_of_ble_eq_true rfl, Nat.le_of_ble_eq_true rfl⟩ (Nat.le_of_ble_eq_true rfl) ⟨rfl, rfl⟩ ⟨Nat.le_of_ble_eq_true rfl, Nat.le_of_ble_eq_true rfl⟩ H (fun v17 h16 H => ?_)
  refine go_putI (pc := 72) dX0_make_72 fs_X0_37 H (fun h18 H => ?_)
  refine go_aload_n (pc := 75) dX0_make_75 rfl rfl ?_
  refine go_getR (pc := 76) dX0_make_76 fl_X0_28 H (fun v19 H => ?_)
  refine go_iload_n (pc := 79) dX0_make_79 rfl rfl ?_
  refine go_iload_n (pc := 80) dX0_make_80 rfl rfl ?_
  refine go_iload (pc := 81) dX0_make_81 rfl ?_
  refine go_cVv (pc := 83) (Mz := M_X8_put) (as := [.int a2, .int a3, .int a4]) (a := v19) (st := []) dX0_make_83 wd_1208 cv_X8_put X8_put_ok rfl rfl ⟨Nat.le_of_ble_eq_true rfl, Nat.le_of_ble_eq_true rfl⟩ (Nat.le_of_ble_eq_true rfl) ⟨rfl, rfl⟩ ⟨Nat.le_of_ble_eq_true rfl, Nat.le_of_ble_eq_true rfl⟩ H (fun h20 H => ?_)
  exact go_vret (pc := 86) dX0_make_86 rfl ⟨Nat.le_of_ble_eq_true rfl, Nat.le_of_ble_eq_true rfl⟩ H

def M_X0_takeBack : MD := (yX0_takeBack, cX0_takeBack, 2, none, 1, 23, 0, 0)
theorem cv_X0_takeBack : CVo M_X0_takeBack 1 0 := ⟨⟨wd_1228, wd_115, ⟨by decide, by decide⟩, by decide +kernel⟩, wd_1226, wd_1227, _, rfl, rfl⟩
def X0_takeBack (a0 : Nat) (a1 : Nat) (h : Hp) : Option (Hp) :=
  (gI h a0 0 1).bind fun v1 =>
  (pF h a0 0 1 (.int (((v1 + 16) - 1) - ((v1 + 16) - 1) / 16 * 16))).bind fun h2 =>
  (gI h2 a0 0 2).bind fun v3 =>
  bd (J9_max_7cf53 (v3 - 1) 0 h2) fun v5 h4 =>
  (pF h4 a0 0 2 (.int v5)).bind fun h6 =>
  (gR h6 a1 4 0).bind fun v7 =>
  (gR h6 a0 0 0).bind fun v8 =>
  (gI h6 a0 0 1).bind fun v9 =>
  cV h6 v8 8 (X8_cell v8 v9 0 h6) fun v11 h10 =>
  (gR h10 a0 0 0).bind fun v12 =>
  (gI h10 a0 0 1).bind fun v13 =>
  cV h10 v12 8 (X8_cell v12 v13 1 h10) fun v15 h14 =>
  (gR h14 a0 0 0).bind fun v16 =>
  (gI h14 a0 0 1).bind fun v17 =>
  cV h14 v16 8 (X8_cell v16 v17 2 h14) fun v19 h18 =>
  cVv h18 v7 8 (X8_put v7 v11 v15 v19 h18) fun h20 =>
  some h20
theorem X0_takeBack_ok {a0 : Nat} {a1 : Nat} {h h' : Hp} (H : X0_takeBack a0 a1 h = some h') : Con M_X0_takeBack [.ref a0, .ref a1] h none h' := by
  refine con_of_go (by decide) 0 (L := [some (.ref a0), some (.ref a1)]) rfl (Nat.le_of_ble_eq_true rfl) ?_
  unfold X0_takeBack at H
  refine go_aload_n (pc := 0) dX0_takeBack_0 rfl rfl ?_
  refine go_aload_n (pc := 1) dX0_takeBack_1 rfl rfl ?_
  refine go_getI (pc := 2) dX0_takeBack_2 fl_X0_20 H (fun v1 H => ?_)
  refine go_bipush (pc := 5) (v := 16) dX0_takeBack_5 (by decide) ?_
  refine go_iadd (pc := 7) dX0_takeBack_7 ?_
  refine go_iconst (pc := 8) (v := 1) dX0_takeBack_8 (by decide) ?_
  refine go_isub (pc := 9) dX0_takeBack_9 ?_
  refine go_bipush (pc := 10) (v := 16) dX0_takeBack_10 (by decide) ?_
  refine go_irem (pc := 12) dX0_takeBack_12 (by decide) ?_
  refine go_putI (pc := 13) dX0_takeBack_13 fs_X0_20 H (fun h2 H => ?_)
  refine go_aload_n (pc := 16) dX0_takeBack_16 rfl rfl ?_
  refine go_aload_n (pc := 17) dX0_takeBack_17 rfl rfl ?_
  refine go_getI (pc := 18) dX0_takeBack_18 fl_X0_37 H (fun v3 H => ?_)
  refine go_iconst (pc := 21) (v := 1) dX0_takeBack_21 (by decide) ?_
  refine go_isub (pc := 22) dX0_takeBack_22 ?_
  refine go_iconst (pc := 23) (v := 0) dX0_takeBack_23 (by decide) ?_
  refine go_cSi (pc := 24) (Mz := M_J9_max_7cf53) (as := [.int (v3 - 1), .int 0]) (st := [.ref a0]) dX0_takeBack_24 wd_1229 cs_J9_max_7cf53 J9_max_7cf53_ok rfl rfl ⟨Nat.le_of_ble_eq_true rfl, Nat.le_of_ble_eq_true rfl⟩ (Nat.le_of_ble_eq_true rfl) ⟨rfl, rfl⟩ ⟨Nat.le_of_ble_eq_true rfl, Nat.le_of_ble_eq_true rfl⟩ H (fun v5 h4 H => ?_)
  refine go_putI (pc := 27) dX0_takeBack_27 fs_X0_37 H (fun h6 H => ?_)
  refine go_aload_n (pc := 30) dX0_takeBack_30 rfl rfl ?_
  refine go_getR (pc := 31) dX0_takeBack_31 fl_X0_28 H (fun v7 H => ?_)
  refine go_aload_n (pc := 34) dX0_takeBack_34 rfl rfl ?_
  refine go_getR (pc := 35) dX0_takeBack_35 fl_X0_14 H (fun v8 H => ?_)
  refine go_aload_n (pc := 38) dX0_takeBack_38 rfl rfl ?_
  refine go_getI (pc := 39) dX0_takeBack_39 fl_X0_20 H (fun v9 H => ?_)
  refine go_iconst (pc := 42) (v := 0) dX0_takeBack_42 (by decide) ?_
  refine go_cVi (pc := 43) (Mz := M_X8_cell) (as := [.int v9, .int 0]) (a := v8) (st := [.ref v7]) dX0_takeBack_43 wd_1209 cv_X8_cell X8_cell_ok rfl rfl ⟨Nat.le_of_ble_eq_true rfl, Nat.le_of_ble_eq_true rfl⟩ (Nat.le_of_ble_eq_true rfl) ⟨rfl, rfl⟩ ⟨Nat.le_of_ble_eq_true rfl, Nat.le_of_ble_eq_true rfl⟩ H (fun v11 h10 H => ?_)
  refine go_aload_n (pc := 46) dX0_takeBack_46 rfl rfl ?_
  refine go_getR (pc := 47) dX0_takeBack_47 fl_X0_14 H (fun v12 H => ?_)
  refine go_aload_n (pc := 50) dX0_takeBack_50 rfl rfl ?_
  refine go_getI (pc := 51) dX0_takeBack_51 fl_X0_20 H (fun v13 H => ?_)
  refine go_iconst (pc := 54) (v := 1) dX0_takeBack_54 (by decide) ?_
  refine go_cVi (pc := 55) (Mz := M_X8_cell) (as := [.int v13, .int 1]) (a := v12) (st := [.int v11, .ref v7]) dX0_takeBack_55 wd_1209 cv_X8_cell X8_cell_ok rfl rfl ⟨Nat.le_of_ble_eq_true rfl, Nat.le_of_ble_eq_true rfl⟩ (Nat.le_of_ble_eq_true rfl) ⟨rfl, rfl⟩ ⟨Nat.le_of_ble_eq_true rfl, Nat.le_of_ble_eq_true rfl⟩ H (fun v15 h14 H => ?_)
  refine go_aload_n (pc := 58) dX0_takeBack_58 rfl rfl ?_
  refine go_getR (pc := 59) dX0_takeBack_59 fl_X0_14 H (fun v16 H => ?_)
  refine go_aload_n (pc := 62) dX0_takeBack_62 rfl rfl ?_
  refine go_getI (pc := 63) dX0_takeBack_63 fl_X0_20 H (fun v17 H => ?_)
  refine go_iconst (pc := 66) (v := 2) dX0_takeBack_66 (by decide) ?_
  refine go_cVi (pc := 67) (Mz := M_X8_cell) (as := [.int v17, .int 2]) (a := v16) (st := [.int v15, .int v11, .ref v7]) dX0_takeBack_67 wd_1209 cv_X8_cell X8_cell_ok rfl rfl ⟨Nat.le_of_ble_eq_true rfl, Nat.le_of_ble_eq_true rfl⟩ (Nat.le_of_ble_eq_true rfl) ⟨rfl, rfl⟩ ⟨Nat.le_of_ble_eq_true rfl, Nat.le_of_ble_eq_true rfl⟩ H (fun v19 h18 H => ?_)
  refine go_cVv (pc := 70) (Mz := M_X8_put) (as := [.int v11, .int v15, .int v19]) (a := v7) (st := []) dX0_takeBack_70 wd_1208 cv_X8_put X8_put_ok rfl rfl ⟨Nat.le_of_ble_eq_true rfl, Nat.le_of_ble_eq_true rfl⟩ (Nat.le_of_ble_eq_true rfl) ⟨rfl, rfl⟩ ⟨Nat.le_of_ble_eq_true rfl, Nat.le_of_ble_eq_true rfl⟩ H (fun h20 H => ?_)
  exact go_vret (pc := 73) dX0_takeBack_73 rfl ⟨Nat.le_of_ble_eq_true rfl, Nat.le_of_ble_eq_true rfl⟩ H

def M_X0_forget : MD := (yX0_forget, cX0_forget, 1, none, 0, 0, 0, 0)
theorem cv_X0_forget : CVo M_X0_forget 0 0 := ⟨⟨wd_736, wd_115, ⟨by decide, by decide⟩, by decide +kernel⟩, wd_734, wd_735, _, rfl, rfl⟩
def X0_forget (a0 : Nat) (h : Hp) : Option (Hp) :=
  (pF h a0 0 2 (.int 0)).bind fun h1 =>
  some h1
theorem X0_forget_ok {a0 : Nat} {h h' : Hp} (H : X0_forget a0 h = some h') : Con M_X0_forget [.ref a0] h none h' := by
  refine con_of_go (by decide) 0 (L := [some (.ref a0)]) rfl (Nat.le_of_ble_eq_true rfl) ?_
  unfold X0_forget at H
  refine go_aload_n (pc := 0) dX0_forget_0 rfl rfl ?_
  refine go_iconst (pc := 1) (v := 0) dX0_forget_1 (by decide) ?_
  refine go_putI (pc := 2) dX0_forget_2 fs_X0_37 H (fun h1 H => ?_)
  exact go_vret (pc := 5) dX0_forget_5 rfl ⟨Nat.le_of_ble_eq_true rfl, Nat.le_of_ble_eq_true rfl⟩ H
