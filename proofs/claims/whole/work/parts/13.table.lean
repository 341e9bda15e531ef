/-! 13.table: written by wip/whole/gen/all.py -/
theorem dX8_init_0 : decode cX8_init 0 = .ok (.aload_n 0, 1) := by decide +kernel
theorem dX8_init_1 : decode cX8_init 1 = .ok (.invokespecial 1, 3) := by decide +kernel
theorem dX8_init_4 : decode cX8_init 4 = .ok (.aload_n 0, 1) := by decide +kernel
theorem dX8_init_5 : decode cX8_init 5 = .ok (.iload_n 1, 1) := by decide +kernel
theorem dX8_init_6 : decode cX8_init 6 = .ok (.iconst 0, 1) := by decide +kernel
theorem dX8_init_7 : decode cX8_init 7 = .ok (.invokestatic 7, 3) := by decide +kernel
theorem dX8_init_10 : decode cX8_init 10 = .ok (.putfield 13, 3) := by decide +kernel
theorem dX8_init_13 : decode cX8_init 13 = .ok (.aload_n 0, 1) := by decide +kernel
theorem dX8_init_14 : decode cX8_init 14 = .ok (.iload_n 2, 1) := by decide +kernel
theorem dX8_init_15 : decode cX8_init 15 = .ok (.iconst 0, 1) := by decide +kernel
theorem dX8_init_16 : decode cX8_init 16 = .ok (.invokestatic 7, 3) := by decide +kernel
theorem dX8_init_19 : decode cX8_init 19 = .ok (.putfield 19, 3) := by decide +kernel
theorem dX8_init_22 : decode cX8_init 22 = .ok (.aload_n 0, 1) := by decide +kernel
theorem dX8_init_23 : decode cX8_init 23 = .ok (.aload_n 0, 1) := by decide +kernel
theorem dX8_init_24 : decode cX8_init 24 = .ok (.getfield 13, 3) := by decide +kernel
theorem dX8_init_27 : decode cX8_init 27 = .ok (.aload_n 0, 1) := by decide +kernel
theorem dX8_init_28 : decode cX8_init 28 = .ok (.getfield 19, 3) := by decide +kernel
theorem dX8_init_31 : decode cX8_init 31 = .ok (.imul, 1) := by decide +kernel
theorem dX8_init_32 : decode cX8_init 32 = .ok (.newarray .int, 2) := by decide +kernel
theorem dX8_init_34 : decode cX8_init 34 = .ok (.putfield 22, 3) := by decide +kernel
theorem dX8_init_37 : decode cX8_init 37 = .ok (.return_, 1) := by decide +kernel
theorem dX8_cell_0 : decode cX8_cell 0 = .ok (.iload_n 1, 1) := by decide +kernel
theorem dX8_cell_1 : decode cX8_cell 1 = .ok (.ifCond .lt 23, 3) := by decide +kernel
theorem dX8_cell_4 : decode cX8_cell 4 = .ok (.iload_n 1, 1) := by decide +kernel
theorem dX8_cell_5 : decode cX8_cell 5 = .ok (.aload_n 0, 1) := by decide +kernel
theorem dX8_cell_6 : decode cX8_cell 6 = .ok (.getfield 13, 3) := by decide +kernel
theorem dX8_cell_9 : decode cX8_cell 9 = .ok (.if_icmp .ge 15, 3) := by decide +kernel
theorem dX8_cell_12 : decode cX8_cell 12 = .ok (.iload_n 2, 1) := by decide +kernel
theorem dX8_cell_13 : decode cX8_cell 13 = .ok (.ifCond .lt 11, 3) := by decide +kernel
theorem dX8_cell_16 : decode cX8_cell 16 = .ok (.iload_n 2, 1) := by decide +kernel
theorem dX8_cell_17 : decode cX8_cell 17 = .ok (.aload_n 0, 1) := by decide +kernel
theorem dX8_cell_18 : decode cX8_cell 18 = .ok (.getfield 19, 3) := by decide +kernel
theorem dX8_cell_21 : decode cX8_cell 21 = .ok (.if_icmp .lt 5, 3) := by decide +kernel
theorem dX8_cell_24 : decode cX8_cell 24 = .ok (.iconst 0, 1) := by decide +kernel
theorem dX8_cell_25 : decode cX8_cell 25 = .ok (.ireturn, 1) := by decide +kernel
theorem dX8_cell_26 : decode cX8_cell 26 = .ok (.aload_n 0, 1) := by decide +kernel
theorem dX8_cell_27 : decode cX8_cell 27 = .ok (.getfield 22, 3) := by decide +kernel
theorem dX8_cell_30 : decode cX8_cell 30 = .ok (.iload_n 1, 1) := by decide +kernel
theorem dX8_cell_31 : decode cX8_cell 31 = .ok (.aload_n 0, 1) := by decide +kernel
theorem dX8_cell_32 : decode cX8_cell 32 = .ok (.getfield 19, 3) := by decide +kernel
theorem dX8_cell_35 : decode cX8_cell 35 = .ok (.imul, 1) := by decide +kernel
theorem dX8_cell_36 : decode cX8_cell 36 = .ok (.iload_n 2, 1) := by decide +kernel
theorem dX8_cell_37 : decode cX8_cell 37 = .ok (.iadd, 1) := by decide +kernel
theorem dX8_cell_38 : decode cX8_cell 38 = .ok (.iaload, 1) := by decide +kernel
theorem dX8_cell_39 : decode cX8_cell 39 = .ok (.ireturn, 1) := by decide +kernel
theorem dX8_put_0 : decode cX8_put 0 = .ok (.iload_n 1, 1) := by decide +kernel
theorem dX8_put_1 : decode cX8_put 1 = .ok (.ifCond .lt 23, 3) := by decide +kernel
theorem dX8_put_4 : decode cX8_put 4 = .ok (.iload_n 1, 1) := by decide +kernel
theorem dX8_put_5 : decode cX8_put 5 = .ok (.aload_n 0, 1) := by decide +kernel
theorem dX8_put_6 : decode cX8_put 6 = .ok (.getfield 13, 3) := by decide +kernel
theorem dX8_put_9 : decode cX8_put 9 = .ok (.if_icmp .ge 15, 3) := by decide +kernel
theorem dX8_put_12 : decode cX8_put 12 = .ok (.iload_n 2, 1) := by decide +kernel
theorem dX8_put_13 : decode cX8_put 13 = .ok (.ifCond .lt 11, 3) := by decide +kernel
theorem dX8_put_16 : decode cX8_put 16 = .ok (.iload_n 2, 1) := by decide +kernel
theorem dX8_put_17 : decode cX8_put 17 = .ok (.aload_n 0, 1) := by decide +kernel
theorem dX8_put_18 : decode cX8_put 18 = .ok (.getfield 19, 3) := by decide +kernel
theorem dX8_put_21 : decode cX8_put 21 = .ok (.if_icmp .lt 4, 3) := by decide +kernel
theorem dX8_put_24 : decode cX8_put 24 = .ok (.return_, 1) := by decide +kernel
theorem dX8_put_25 : decode cX8_put 25 = .ok (.aload_n 0, 1) := by decide +kernel
theorem dX8_put_26 : decode cX8_put 26 = .ok (.getfield 22, 3) := by decide +kernel
theorem dX8_put_29 : decode cX8_put 29 = .ok (.iload_n 1, 1) := by decide +kernel
theorem dX8_put_30 : decode cX8_put 30 = .ok (.aload_n 0, 1) := by decide +kernel
theorem dX8_put_31 : decode cX8_put 31 = .ok (.getfield 19, 3) := by decide +kernel
theorem dX8_put_34 : decode cX8_put 34 = .ok (.imul, 1) := by decide +kernel
theorem dX8_put_35 : decode cX8_put 35 = .ok (.iload_n 2, 1) := by decide +kernel
theorem dX8_put_36 : decode cX8_put 36 = .ok (.iadd, 1) := by decide +kernel
theorem dX8_put_37 : decode cX8_put 37 = .ok (.iload_n 3, 1) := by decide +kernel
theorem dX8_put_38 : decode cX8_put 38 = .ok (.iastore, 1) := by decide +kernel
theorem dX8_put_39 : decode cX8_put 39 = .ok (.return_, 1) := by decide +kernel
theorem dX8_isFull_0 : decode cX8_isFull 0 = .ok (.aload_n 0, 1) := by decide +kernel
theorem dX8_isFull_1 : decode cX8_isFull 1 = .ok (.getfield 26, 3) := by decide +kernel
theorem dX8_isFull_4 : decode cX8_isFull 4 = .ok (.aload_n 0, 1) := by decide +kernel
theorem dX8_isFull_5 : decode cX8_isFull 5 = .ok (.getfield 13, 3) := by decide +kernel
theorem dX8_isFull_8 : decode cX8_isFull 8 = .ok (.if_icmp .lt 7, 3) := by decide +kernel
theorem dX8_isFull_11 : decode cX8_isFull 11 = .ok (.iconst 1, 1) := by decide +kernel
theorem dX8_isFull_12 : decode cX8_isFull 12 = .ok (.goto 4, 3) := by decide +kernel
theorem dX8_isFull_15 : decode cX8_isFull 15 = .ok (.iconst 0, 1) := by decide +kernel
theorem dX8_isFull_16 : decode cX8_isFull 16 = .ok (.ireturn, 1) := by decide +kernel
theorem dX8_add_0 : decode cX8_add 0 = .ok (.aload_n 0, 1) := by decide +kernel
theorem dX8_add_1 : decode cX8_add 1 = .ok (.invokevirtual 29, 3) := by decide +kernel
theorem dX8_add_4 : decode cX8_add 4 = .ok (.ifCond .eq 4, 3) := by decide +kernel
theorem dX8_add_7 : decode cX8_add 7 = .ok (.return_, 1) := by decide +kernel
theorem dX8_add_8 : decode cX8_add 8 = .ok (.aload_n 0, 1) := by decide +kernel
theorem dX8_add_9 : decode cX8_add 9 = .ok (.aload_n 0, 1) := by decide +kernel
theorem dX8_add_10 : decode cX8_add 10 = .ok (.getfield 26, 3) := by decide +kernel
theorem dX8_add_13 : decode cX8_add 13 = .ok (.iconst 0, 1) := by decide +kernel
theorem dX8_add_14 : decode cX8_add 14 = .ok (.iload_n 1, 1) := by decide +kernel
theorem dX8_add_15 : decode cX8_add 15 = .ok (.invokevirtual 33, 3) := by decide +kernel
theorem dX8_add_18 : decode cX8_add 18 = .ok (.aload_n 0, 1) := by decide +kernel
theorem dX8_add_19 : decode cX8_add 19 = .ok (.aload_n 0, 1) := by decide +kernel
theorem dX8_add_20 : decode cX8_add 20 = .ok (.getfield 26, 3) := by decide +kernel
theorem dX8_add_23 : decode cX8_add 23 = .ok (.iconst 1, 1) := by decide +kernel
theorem dX8_add_24 : decode cX8_add 24 = .ok (.iload_n 2, 1) := by decide +kernel
theorem dX8_add_25 : decode cX8_add 25 = .ok (.invokevirtual 33, 3) := by decide +kernel
theorem dX8_add_28 : decode cX8_add 28 = .ok (.aload_n 0, 1) := by decide +kernel
theorem dX8_add_29 : decode cX8_add 29 = .ok (.aload_n 0, 1) := by decide +kernel
theorem dX8_add_30 : decode cX8_add 30 = .ok (.getfield 26, 3) := by decide +kernel
theorem dX8_add_33 : decode cX8_add 33 = .ok (.iconst 2, 1) := by decide +kernel
theorem dX8_add_34 : decode cX8_add 34 = .ok (.iload_n 3, 1) := by decide +kernel
theorem dX8_add_35 : decode cX8_add 35 = .ok (.invokevirtual 33, 3) := by decide +kernel
theorem dX8_add_38 : decode cX8_add 38 = .ok (.aload_n 0, 1) := by decide +kernel
theorem dX8_add_39 : decode cX8_add 39 = .ok (.aload_n 0, 1) := by decide +kernel
theorem dX8_add_40 : decode cX8_add 40 = .ok (.getfield 26, 3) := by decide +kernel
theorem dX8_add_43 : decode cX8_add 43 = .ok (.iconst 3, 1) := by decide +kernel
theorem dX8_add_44 : decode cX8_add 44 = .ok (.iload 4, 2) := by decide +kernel
theorem dX8_add_46 : decode cX8_add 46 = .ok (.invokevirtual 33, 3) := by decide +kernel
theorem dX8_add_49 : decode cX8_add 49 = .ok (.aload_n 0, 1) := by decide +kernel
theorem dX8_add_50 : decode cX8_add 50 = .ok (.dup, 1) := by decide +kernel
theorem dX8_add_51 : decode cX8_add 51 = .ok (.getfield 26, 3) := by decide +kernel
theorem dX8_add_54 : decode cX8_add 54 = .ok (.iconst 1, 1) := by decide +kernel
theorem dX8_add_55 : decode cX8_add 55 = .ok (.iadd, 1) := by decide +kernel
theorem dX8_add_56 : decode cX8_add 56 = .ok (.putfield 26, 3) := by decide +kernel
theorem dX8_add_59 : decode cX8_add 59 = .ok (.return_, 1) := by decide +kernel
theorem dX8_holds_0 : decode cX8_holds 0 = .ok (.iconst 0, 1) := by decide +kernel
theorem dX8_holds_1 : decode cX8_holds 1 = .ok (.istore_n 3, 1) := by decide +kernel
theorem dX8_holds_2 : decode cX8_holds 2 = .ok (.iload_n 3, 1) := by decide +kernel
theorem dX8_holds_3 : decode cX8_holds 3 = .ok (.aload_n 0, 1) := by decide +kernel
theorem dX8_holds_4 : decode cX8_holds 4 = .ok (.getfield 26, 3) := by decide +kernel
theorem dX8_holds_7 : decode cX8_holds 7 = .ok (.if_icmp .ge 21, 3) := by decide +kernel
theorem dX8_holds_10 : decode cX8_holds 10 = .ok (.aload_n 0, 1) := by decide +kernel
theorem dX8_holds_11 : decode cX8_holds 11 = .ok (.iload_n 3, 1) := by decide +kernel
theorem dX8_holds_12 : decode cX8_holds 12 = .ok (.iload_n 1, 1) := by decide +kernel
theorem dX8_holds_13 : decode cX8_holds 13 = .ok (.invokevirtual 37, 3) := by decide +kernel
theorem dX8_holds_16 : decode cX8_holds 16 = .ok (.iload_n 2, 1) := by decide +kernel
theorem dX8_holds_17 : decode cX8_holds 17 = .ok (.if_icmp .ne 5, 3) := by decide +kernel
theorem dX8_holds_20 : decode cX8_holds 20 = .ok (.iconst 1, 1) := by decide +kernel
theorem dX8_holds_21 : decode cX8_holds 21 = .ok (.ireturn, 1) := by decide +kernel
theorem dX8_holds_22 : decode cX8_holds 22 = .ok (.iinc 3 1, 3) := by decide +kernel
theorem dX8_holds_25 : decode cX8_holds 25 = .ok (.goto (-23), 3) := by decide +kernel
theorem dX8_holds_28 : decode cX8_holds 28 = .ok (.iconst 0, 1) := by decide +kernel
theorem dX8_holds_29 : decode cX8_holds 29 = .ok (.ireturn, 1) := by decide +kernel
theorem dX8_copyFrom_0 : decode cX8_copyFrom 0 = .ok (.aload_n 0, 1) := by decide +kernel
theorem dX8_copyFrom_1 : decode cX8_copyFrom 1 = .ok (.aload_n 1, 1) := by decide +kernel
theorem dX8_copyFrom_2 : decode cX8_copyFrom 2 = .ok (.getfield 26, 3) := by decide +kernel
theorem dX8_copyFrom_5 : decode cX8_copyFrom 5 = .ok (.putfield 26, 3) := by decide +kernel
theorem dX8_copyFrom_8 : decode cX8_copyFrom 8 = .ok (.iconst 0, 1) := by decide +kernel
theorem dX8_copyFrom_9 : decode cX8_copyFrom 9 = .ok (.istore_n 2, 1) := by decide +kernel
theorem dX8_copyFrom_10 : decode cX8_copyFrom 10 = .ok (.iload_n 2, 1) := by decide +kernel
theorem dX8_copyFrom_11 : decode cX8_copyFrom 11 = .ok (.aload_n 0, 1) := by decide +kernel
theorem dX8_copyFrom_12 : decode cX8_copyFrom 12 = .ok (.getfield 22, 3) := by decide +kernel
theorem dX8_copyFrom_15 : decode cX8_copyFrom 15 = .ok (.arraylength, 1) := by decide +kernel
theorem dX8_copyFrom_16 : decode cX8_copyFrom 16 = .ok (.if_icmp .ge 30, 3) := by decide +kernel
theorem dX8_copyFrom_19 : decode cX8_copyFrom 19 = .ok (.iload_n 2, 1) := by decide +kernel
theorem dX8_copyFrom_20 : decode cX8_copyFrom 20 = .ok (.aload_n 1, 1) := by decide +kernel
theorem dX8_copyFrom_21 : decode cX8_copyFrom 21 = .ok (.getfield 22, 3) := by decide +kernel
theorem dX8_copyFrom_24 : decode cX8_copyFrom 24 = .ok (.arraylength, 1) := by decide +kernel
theorem dX8_copyFrom_25 : decode cX8_copyFrom 25 = .ok (.if_icmp .ge 21, 3) := by decide +kernel
theorem dX8_copyFrom_28 : decode cX8_copyFrom 28 = .ok (.aload_n 0, 1) := by decide +kernel
theorem dX8_copyFrom_29 : decode cX8_copyFrom 29 = .ok (.getfield 22, 3) := by decide +kernel
theorem dX8_copyFrom_32 : decode cX8_copyFrom 32 = .ok (.iload_n 2, 1) := by decide +kernel
theorem dX8_copyFrom_33 : decode cX8_copyFrom 33 = .ok (.aload_n 1, 1) := by decide +kernel
theorem dX8_copyFrom_34 : decode cX8_copyFrom 34 = .ok (.getfield 22, 3) := by decide +kernel
theorem dX8_copyFrom_37 : decode cX8_copyFrom 37 = .ok (.iload_n 2, 1) := by decide +kernel
theorem dX8_copyFrom_38 : decode cX8_copyFrom 38 = .ok (.iaload, 1) := by decide +kernel
theorem dX8_copyFrom_39 : decode cX8_copyFrom 39 = .ok (.iastore, 1) := by decide +kernel
theorem dX8_copyFrom_40 : decode cX8_copyFrom 40 = .ok (.iinc 2 1, 3) := by decide +kernel
theorem dX8_copyFrom_43 : decode cX8_copyFrom 43 = .ok (.goto (-33), 3) := by decide +kernel
theorem dX8_copyFrom_46 : decode cX8_copyFrom 46 = .ok (.return_, 1) := by decide +kernel
def M_X8_init : MD := (yX8_init, cX8_init, 3, none, 1, 21, 1, 48)
theorem ci_X8_init : CIo M_X8_init 2 := ⟨⟨wd_149, wd_111, ⟨by decide, by decide⟩, by decide +kernel⟩, wd_148, rfl, rfl⟩
def X8_init (a0 : Nat) (a1 : Int32) (a2 : Int32) (h : Hp) : Option (Hp) :=
  bd (J9_max_7cf53 a1 0 h) fun v2 h1 =>
  (pF h1 a0 8 0 (.int v2)).bind fun h3 =>
  bd (J9_max_7cf53 a2 0 h3) fun v5 h4 =>
  (pF h4 a0 8 1 (.int v5)).bind fun h6 =>
  (gI h6 a0 8 0).bind fun v7 =>
  (gI h6 a0 8 1).bind fun v8 =>
  if (v7 * v8) < 0 ∨ 48 < Int32.toNatClampNeg (v7 * v8) then none else
  pin (nw h6 (.inl (1, Int32.toNatClampNeg (v7 * v8), .inl (fun _ => 0)))) fun h9 =>
  (pF h9 a0 8 2 (.ref h6.1)).bind fun h10 =>
  some h10
theorem X8_init_ok {a0 : Nat} {a1 : Int32} {a2 : Int32} {h h' : Hp} (H : X8_init a0 a1 a2 h = some h') : Con M_X8_init [.ref a0, .int a1, .int a2] h none h' := by
  refine con_of_go (by decide) 0 (L := [some (.ref a0), some (.int a1), some (.int a2)]) rfl (Nat.le_of_ble_eq_true rfl) ?_
  unfold X8_init at H
  refine go_aload_n (pc := 0) dX8_init_0 rfl rfl ?_
  refine go_objInit (pc := 1) dX8_init_1 wd_150 wd_137 wd_138 (Nat.le_of_ble_eq_true rfl) (Nat.le_of_ble_eq_true rfl) ?_
  refine go_aload_n (pc := 4) dX8_init_4 rfl rfl ?_
  refine go_iload_n (pc := 5) dX8_init_5 rfl rfl ?_
  refine go_iconst (pc := 6) (v := 0) dX8_init_6 (by decide) ?_
  refine go_cSi (pc := 7) (Mz := M_J9_max_7cf53) (as := [.int a1, .int 0]) (st := [.ref a0]) dX8_init_7 wd_151 cs_J9_max_7cf53 J9_max_7cf53_ok rfl rfl ⟨Nat.le_of_ble_eq_true rfl, Nat.le_of_ble_eq_true rfl⟩ (Nat.le_of_ble_eq_true rfl) ⟨rfl, rfl⟩ ⟨Nat.le_of_ble_eq_true rfl, Nat.le_of_ble_eq_true rfl⟩ H (fun v2 h1 H => ?_)
  refine go_putIF (pc := 10) dX8_init_10 fs_X8_13 ⟨rfl, _, rfl, rfl⟩ H (fun h3 H => ?_)
  refine go_aload_n (pc := 13) dX8_init_13 rfl rfl ?_
  refine go_iload_n (pc := 14) dX8_init_14 rfl rfl ?_
  refine go_iconst (pc := 15) (v := 0) dX8_init_15 (by decide) ?_
  refine go_cSi (pc := 16) (Mz := M_J9_max_7cf53) (as := [.int a2, .int 0]) (st := [.ref a0]) dX8_init_16 wd_151 cs_J9_max_7cf53 J9_max_7cf53_ok rfl rfl ⟨Nat.le_of_ble_eq_true rfl, Nat.le_of_ble_eq_true rfl⟩ (Nat.le_of_ble_eq_true rfl) ⟨rfl, rfl⟩ ⟨Nat.le_of_ble_eq_true rfl, Nat.le_of_ble_eq_true rfl⟩ H (fun v5 h4 H => ?_)
  refine go_putIF (pc := 19) dX8_init_19 fs_X8_19 ⟨rfl, _, rfl, rfl⟩ H (fun h6 H => ?_)
  refine go_aload_n (pc := 22) dX8_init_22 rfl rfl ?_
  refine go_aload_n (pc := 23) dX8_init_23 rfl rfl ?_
  refine go_getI (pc := 24) dX8_init_24 fl_X8_13 H (fun v7 H => ?_)
  refine go_aload_n (pc := 27) dX8_init_27 rfl rfl ?_
  refine go_getI (pc := 28) dX8_init_28 fl_X8_19 H (fun v8 H => ?_)
  refine go_imul (pc := 31) dX8_init_31 ?_
  refine go_newID (pc := 32) 48 dX8_init_32 wd_176 H (Nat.le_of_ble_eq_true rfl) (Nat.le_of_ble_eq_true rfl) (Nat.le_of_ble_eq_true rfl) (fun H => ?_)
  refine go_pinH H (fun h9 H => ?_)
  refine go_putAF (pc := 34) dX8_init_34 fs_X8_22 ⟨rfl, _, rfl, rfl⟩ H (fun h10 H => ?_)
  exact go_vret (pc := 37) dX8_init_37 rfl ⟨Nat.le_of_ble_eq_true rfl, Nat.le_of_ble_eq_true rfl⟩ H

def M_X8_cell : MD := (yX8_cell, cX8_cell, 3, (some .int), 0, 0, 0, 0)
theorem cv_X8_cell : CVo M_X8_cell 2 8 := ⟨⟨wd_690, wd_111, ⟨by decide, by decide⟩, by decide +kernel⟩, wd_688, wd_689, _, rfl, rfl⟩
def X8_cell (a0 : Nat) (a1 : Int32) (a2 : Int32) (h : Hp) : Option (Int32 × Hp) :=
  if a1 < 0 then (
    some (0, h))
  else (
    (gI h a0 8 0).bind fun v1 =>
    if v1 ≤ a1 then (
      some (0, h))
    else (
      if a2 < 0 then (
        some (0, h))
      else (
        (gI h a0 8 1).bind fun v2 =>
        if a2 < v2 then (
          (gR h a0 8 2).bind fun v3 =>
          (gI h a0 8 1).bind fun v4 =>
          (aI h v3 ((a1 * v4) + a2)).bind fun v5 =>
          some (v5, h))
        else (
          some (0, h)))))
theorem X8_cell_ok {a0 : Nat} {a1 : Int32} {a2 : Int32} {h h' : Hp} {r : Int32} (H : X8_cell a0 a1 a2 h = some (r, h')) : Con M_X8_cell [.ref a0, .int a1, .int a2] h (some (.int r)) h' := by
  refine con_of_go (by decide) 0 (L := [some (.ref a0), some (.int a1), some (.int a2)]) rfl (Nat.le_of_ble_eq_true rfl) ?_
  unfold X8_cell at H
  refine go_iload_n (pc := 0) dX8_cell_0 rfl rfl ?_
  refine go_if_lt (pc := 1) (tgt := 24) dX8_cell_1 (by decide) H (fun H => ?_) (fun H => ?_)
  · refine go_iconst (pc := 24) (v := 0) dX8_cell_24 (by decide) ?_
    exact go_iret (pc := 25) dX8_cell_25 rfl ⟨Nat.le_of_ble_eq_true rfl, Nat.le_of_ble_eq_true rfl⟩ H
  · refine go_iload_n (pc := 4) dX8_cell_4 rfl rfl ?_
    refine go_aload_n (pc := 5) dX8_cell_5 rfl rfl ?_
    refine go_getI (pc := 6) dX8_cell_6 fl_X8_13 H (fun v1 H => ?_)
    refine go_icmp_ge (pc := 9) (tgt := 24) dX8_cell_9 (by decide) H (fun H => ?_) (fun H => ?_)
    · refine go_iconst (pc := 24) (v := 0) dX8_cell_24 (by decide) ?_
      exact go_iret (pc := 25) dX8_cell_25 rfl ⟨Nat.le_of_ble_eq_true rfl, Nat.le_of_ble_eq_true rfl⟩ H
    · refine go_iload_n (pc := 12) dX8_cell_12 rfl rfl ?_
      refine go_if_lt (pc := 13) (tgt := 24) dX8_cell_13 (by decide) H (fun H => ?_) (fun H => ?_)
      · refine go_iconst (pc := 24) (v := 0) dX8_cell_24 (by decide) ?_
        exact go_iret (pc := 25) dX8_cell_25 rfl ⟨Nat.le_of_ble_eq_true rfl, Nat.le_of_ble_eq_true rfl⟩ H
      · refine go_iload_n (pc := 16) dX8_cell_16 rfl rfl ?_
        refine go_aload_n (pc := 17) dX8_cell_17 rfl rfl ?_
        refine go_getI (pc := 18) dX8_cell_18 fl_X8_19 H (fun v2 H => ?_)
        refine go_icmp_lt (pc := 21) (tgt := 26) dX8_cell_21 (by decide) H (fun H => ?_) (fun H => ?_)
        · refine go_aload_n (pc := 26) dX8_cell_26 rfl rfl ?_
          refine go_getR (pc := 27) dX8_cell_27 fl_X8_22 H (fun v3 H => ?_)
          refine go_iload_n (pc := 30) dX8_cell_30 rfl rfl ?_
          refine go_aload_n (pc := 31) dX8_cell_31 rfl rfl ?_
          refine go_getI (pc := 32) dX8_cell_32 fl_X8_19 H (fun v4 H => ?_)
          refine go_imul (pc := 35) dX8_cell_35 ?_
          refine go_iload_n (pc := 36) dX8_cell_36 rfl rfl ?_
          refine go_iadd (pc := 37) dX8_cell_37 ?_
          refine go_iaload (pc := 38) dX8_cell_38 H (fun v5 H => ?_)
          exact go_iret (pc := 39) dX8_cell_39 rfl ⟨Nat.le_of_ble_eq_true rfl, Nat.le_of_ble_eq_true rfl⟩ H
        · refine go_iconst (pc := 24) (v := 0) dX8_cell_24 (by decide) ?_
          exact go_iret (pc := 25) dX8_cell_25 rfl ⟨Nat.le_of_ble_eq_true rfl, Nat.le_of_ble_eq_true rfl⟩ H

def M_X8_put : MD := (yX8_put, cX8_put, 4, none, 0, 0, 0, 0)
theorem cv_X8_put : CVo M_X8_put 3 8 := ⟨⟨wd_652, wd_111, ⟨by decide, by decide⟩, by decide +kernel⟩, wd_650, wd_651, _, rfl, rfl⟩
def X8_put (a0 : Nat) (a1 : Int32) (a2 : Int32) (a3 : Int32) (h : Hp) : Option (Hp) :=
  if a1 < 0 then (
    some h)
  else (
    (gI h a0 8 0).bind fun v1 =>
    if v1 ≤ a1 then (
      some h)
    else (
      if a2 < 0 then (
        some h)
      else (
        (gI h a0 8 1).bind fun v2 =>
        if a2 < v2 then (
          (gR h a0 8 2).bind fun v3 =>
          (gI h a0 8 1).bind fun v4 =>
          (sI h v3 ((a1 * v4) + a2) a3).bind fun h5 =>
          some h5)
        else (
          some h))))
theorem X8_put_ok {a0 : Nat} {a1 : Int32} {a2 : Int32} {a3 : Int32} {h h' : Hp} (H : X8_put a0 a1 a2 a3 h = some h') : Con M_X8_put [.ref a0, .int a1, .int a2, .int a3] h none h' := by
  refine con_of_go (by decide) 0 (L := [some (.ref a0), some (.int a1), some (.int a2), some (.int a3)]) rfl (Nat.le_of_ble_eq_true rfl) ?_
  unfold X8_put at H
  refine go_iload_n (pc := 0) dX8_put_0 rfl rfl ?_
  refine go_if_lt (pc := 1) (tgt := 24) dX8_put_1 (by decide) H (fun H => ?_) (fun H => ?_)
  · exact go_vret (pc := 24) dX8_put_24 rfl ⟨Nat.le_of_ble_eq_true rfl, Nat.le_of_ble_eq_true rfl⟩ H
  · refine go_iload_n (pc := 4) dX8_put_4 rfl rfl ?_
    refine go_aload_n (pc := 5) dX8_put_5 rfl rfl ?_
    refine go_getI (pc := 6) dX8_put_6 fl_X8_13 H (fun v1 H => ?_)
    refine go_icmp_ge (pc := 9) (tgt := 24) dX8_put_9 (by decide) H (fun H => ?_) (fun H => ?_)
    · exact go_vret (pc := 24) dX8_put_24 rfl ⟨Nat.le_of_ble_eq_true rfl, Nat.le_of_ble_eq_true rfl⟩ H
    · refine go_iload_n (pc := 12) dX8_put_12 rfl rfl ?_
      refine go_if_lt (pc := 13) (tgt := 24) dX8_put_13 (by decide) H (fun H => ?_) (fun H => ?_)
      · exact go_vret (pc := 24) dX8_put_24 rfl ⟨Nat.le_of_ble_eq_true rfl, Nat.le_of_ble_eq_true rfl⟩ H
      · refine go_iload_n (pc := 16) dX8_put_16 rfl rfl ?_
        refine go_aload_n (pc := 17) dX8_put_17 rfl rfl ?_
        refine go_getI (pc := 18) dX8_put_18 fl_X8_19 H (fun v2 H => ?_)
        refine go_icmp_lt (pc := 21) (tgt := 25) dX8_put_21 (by decide) H (fun H => ?_) (fun H => ?_)
        · refine go_aload_n (pc := 25) dX8_put_25 rfl rfl ?_
          refine go_getR (pc := 26) dX8_put_26 fl_X8_22 H (fun v3 H => ?_)
          refine go_iload_n (pc := 29) dX8_put_29 rfl rfl ?_
          refine go_aload_n (pc := 30) dX8_put_30 rfl rfl ?_
          refine go_getI (pc := 31) dX8_put_31 fl_X8_19 H (fun v4 H => ?_)
          refine go_imul (pc := 34) dX8_put_34 ?_
          refine go_iload_n (pc := 35) dX8_put_35 rfl rfl ?_
          refine go_iadd (pc := 36) dX8_put_36 ?_
          refine go_iload_n (pc := 37) dX8_put_37 rfl rfl ?_
          refine go_iastore (pc := 38) dX8_put_38 H (fun h5 H => ?_)
          exact go_vret (pc := 39) dX8_put_39 rfl ⟨Nat.le_of_ble_eq_true rfl, Nat.le_of_ble_eq_true rfl⟩ H
        · exact go_vret (pc := 24) dX8_put_24 rfl ⟨Nat.le_of_ble_eq_true rfl, Nat.le_of_ble_eq_true rfl⟩ H

def M_X8_isFull : MD := (yX8_isFull, cX8_isFull, 1, (some .boolean), 0, 0, 0, 0)
theorem cv_X8_isFull : CVo M_X8_isFull 0 8 := ⟨⟨wd_624, wd_111, ⟨by decide, by decide⟩, by decide +kernel⟩, wd_622, wd_623, _, rfl, rfl⟩
def X8_isFull (a0 : Nat) (h : Hp) : Option (Int32 × Hp) :=
  (gI h a0 8 3).bind fun v1 =>
  (gI h a0 8 0).bind fun v2 =>
  if v1 < v2 then (
    rZ 0 h)
  else (
    rZ 1 h)
theorem X8_isFull_ok {a0 : Nat} {h h' : Hp} {r : Int32} (H : X8_isFull a0 h = some (r, h')) : Con M_X8_isFull [.ref a0] h (some (.int r)) h' := by
  refine con_of_go (by decide) 0 (L := [some (.ref a0)]) rfl (Nat.le_of_ble_eq_true rfl) ?_
  unfold X8_isFull at H
  refine go_aload_n (pc := 0) dX8_isFull_0 rfl rfl ?_
  refine go_getI (pc := 1) dX8_isFull_1 fl_X8_26 H (fun v1 H => ?_)
  refine go_aload_n (pc := 4) dX8_isFull_4 rfl rfl ?_
  refine go_getI (pc := 5) dX8_isFull_5 fl_X8_13 H (fun v2 H => ?_)
  refine go_icmp_lt (pc := 8) (tgt := 15) dX8_isFull_8 (by decide) H (fun H => ?_) (fun H => ?_)
  · refine go_iconst (pc := 15) (v := 0) dX8_isFull_15 (by decide) ?_
    exact go_zret (pc := 16) dX8_isFull_16 rfl ⟨Nat.le_of_ble_eq_true rfl, Nat.le_of_ble_eq_true rfl⟩ H
  · refine go_iconst (pc := 11) (v := 1) dX8_isFull_11 (by decide) ?_
    refine go_goto (pc := 12) (tgt := 16) dX8_isFull_12 (by decide) ?_
    exact go_zret (pc := 16) dX8_isFull_16 rfl ⟨Nat.le_of_ble_eq_true rfl, Nat.le_of_ble_eq_true rfl⟩ H

def M_X8_add : MD := (yX8_add, cX8_add, 5, none, 1, 23, 0, 0)
theorem cv_X8_add : CVo M_X8_add 4 8 := ⟨⟨wd_647, wd_111, ⟨by decide, by decide⟩, by decide +kernel⟩, wd_645, wd_646, _, rfl, rfl⟩
def X8_add (a0 : Nat) (a1 : Int32) (a2 : Int32) (a3 : Int32) (a4 : Int32) (h : Hp) : Option (Hp) :=
  cV h a0 8 (X8_isFull a0 h) fun v2 h1 =>
  if v2 = 0 then (
    (gI h1 a0 8 3).bind fun v3 =>
    cVv h1 a0 8 (X8_put a0 v3 0 a1 h1) fun h4 =>
    (gI h4 a0 8 3).bind fun v5 =>
    cVv h4 a0 8 (X8_put a0 v5 1 a2 h4) fun h6 =>
    (gI h6 a0 8 3).bind fun v7 =>
    cVv h6 a0 8 (X8_put a0 v7 2 a3 h6) fun h8 =>
    (gI h8 a0 8 3).bind fun v9 =>
    cVv h8 a0 8 (X8_put a0 v9 3 a4 h8) fun h10 =>
    (gI h10 a0 8 3).bind fun v11 =>
    (pF h10 a0 8 3 (.int (v11 + 1))).bind fun h12 =>
    some h12)
  else (
    some h1)
theorem X8_add_ok {a0 : Nat} {a1 : Int32} {a2 : Int32} {a3 : Int32} {a4 : Int32} {h h' : Hp} (H : X8_add a0 a1 a2 a3 a4 h = some h') : Con M_X8_add [.ref a0, .int a1, .int a2, .int a3, .int a4] h none h' := by
  refine con_of_go (by decide) 0 (L := [some (.ref a0), some (.int a1), some (.int a2), some (.int a3), some (.int a4)]) rfl (Nat.le_of_ble_eq_true rfl) ?_
  unfold X8_add at H
  refine go_aload_n (pc := 0) dX8_add_0 rfl rfl ?_
  refine go_cVi (pc := 1) (Mz := M_X8_isFull) (as := []) (a := a0) (st := []) dX8_add_1 wd_648 cv_X8_isFull X8_isFull_ok rfl rfl ⟨Nat.le_of_ble_eq_true rfl, Nat.le_of_ble_eq_true rfl⟩ (Nat.le_of_ble_eq_true rfl) ⟨rfl, rfl⟩ ⟨Nat.le_of_ble_eq_true rfl, Nat.le_of_ble_eq_true rfl⟩ H (fun v2 h1 H => ?_)
  refine go_if_eq (pc := 4) (tgt := 8) dX8_add_4 (by decide) H (fun H => ?_) (fun H => ?_)
  · refine go_aload_n (pc := 8) dX8_add_8 rfl rfl ?_
    refine go_aload_n (pc := 9) dX8_add_9 rfl rfl ?_
    refine go_getI (pc := 10) dX8_add_10 fl_X8_26 H (fun v3 H => ?_)
    refine go_iconst (pc := 13) (v := 0) dX8_add_13 (by decide) ?_
    refine go_iload_n (pc := 14) dX8_add_14 rfl rfl ?_
    refine go_cVv (pc := 15) (Mz := M_X8_put) (as := [.int v3, .int 0, .int a1]) (a := a0) (st := []) dX8_add_15 wd_649 cv_X8_put X8_put_ok rfl rfl ⟨Nat.le_of_ble_eq_true rfl, Nat.le_of_ble_eq_true rfl⟩ (Nat.le_of_ble_eq_true rfl) ⟨rfl, rfl⟩ ⟨Nat.le_of_ble_eq_true rfl, Nat.le_of_ble_eq_true rfl⟩ H (fun h4 H => ?_)
    refine go_aload_n (pc := 18) dX8_add_18 rfl rfl ?_
    refine go_aload_n (pc := 19) dX8_add_19 rfl rfl ?_
    refine go_getI (pc := 20) dX8_add_20 fl_X8_26 H (fun v5 H => ?_)
    refine go_iconst (pc := 23) (v := 1) dX8_add_23 (by decide) ?_
    refine go_iload_n (pc := 24) dX8_add_24 rfl rfl ?_
    refine go_cVv (pc := 25) (Mz := M_X8_put) (as := [.int v5, .int 1, .int a2]) (a := a0) (st := []) dX8_add_25 wd_649 cv_X8_put X8_put_ok rfl rfl ⟨Nat.le_of_ble_eq_true rfl, Nat.le_of_ble_eq_true rfl⟩ (Nat.le_of_ble_eq_true rfl) ⟨rfl, rfl⟩ ⟨Nat.le_of_ble_eq_true rfl, Nat.le_of_ble_eq_true rfl⟩ H (fun h6 H => ?_)
    refine go_aload_n (pc := 28) dX8_add_28 rfl rfl ?_
    refine go_aload_n (pc := 29) dX8_add_29 rfl rfl ?_
    refine go_getI (pc := 30) dX8_add_30 fl_X8_26 H (fun v7 H => ?_)
    refine go_iconst (pc := 33) (v := 2) dX8_add_33 (by decide) ?_
    refine go_iload_n (pc := 34) dX8_add_34 rfl rfl ?_
    refine go_cVv (pc := 35) (Mz := M_X8_put) (as := [.int v7, .int 2, .int a3]) (a := a0) (st := []) dX8_add_35 wd_649 cv_X8_put X8_put_ok rfl rfl ⟨Nat.le_of_ble_eq_true rfl, Nat.le_of_ble_eq_true rfl⟩ (Nat.le_of_ble_eq_true rfl) ⟨rfl, rfl⟩ ⟨Nat.le_of_ble_eq_true rfl, Nat.le_of_ble_eq_true rfl⟩ H (fun h8 H => ?_)
    refine go_aload_n (pc := 38) dX8_add_38 rfl rfl ?_
    refine go_aload_n (pc := 39) dX8_add_39 rfl rfl ?_
    refine go_getI (pc := 40) dX8_add_40 fl_X8_26 H (fun v9 H => ?_)
    refine go_iconst (pc := 43) (v := 3) dX8_add_43 (by decide) ?_
    refine go_iload (pc := 44) dX8_add_44 rfl ?_
    refine go_cVv (pc := 46) (Mz := M_X8_put) (as := [.int v9, .int 3, .int a4]) (a := a0) (st := []) dX8_add_46 wd_649 cv_X8_put X8_put_ok rfl rfl ⟨Nat.le_of_ble_eq_true rfl, Nat.le_of_ble_eq_true rfl⟩ (Nat.le_of_ble_eq_true rfl) ⟨rfl, rfl⟩ ⟨Nat.le_of_ble_eq_true rfl, Nat.le_of_ble_eq_true rfl⟩ H (fun h10 H => ?_)
    refine go_aload_n (pc := 49) dX8_add_49 rfl rfl ?_
    refine go_dup (pc := 50) dX8_add_50 rfl ?_
    refine go_getI (pc := 51) dX8_add_51 fl_X8_26 H (fun v11 H => ?_)
    refine go_iconst (pc := 54) (v := 1) dX8_add_54 (by decide) ?_
    refine go_iadd (pc := 55) dX8_add_55 ?_
    refine go_putI (pc := 56) dX8_add_56 fs_X8_26 H (fun h12 H => ?_)
    exact go_vret (pc := 59) dX8_add_59 rfl ⟨Nat.le_of_ble_eq_true rfl, Nat.le_of_ble_eq_true rfl⟩ H
  · exact go_vret (pc := 7) dX8_add_7 rfl ⟨Nat.le_of_ble_eq_true rfl, Nat.le_of_ble_eq_true rfl⟩ H

def M_X8_holds : MD := (yX8_holds, cX8_holds, 4, (some .boolean), 1, 22, 0, 0)
theorem cv_X8_holds : CVo M_X8_holds 2 8 := ⟨⟨wd_686, wd_111, ⟨by decide, by decide⟩, by decide +kernel⟩, wd_684, wd_685, _, rfl, rfl⟩
def X8_holds_L2_s (rc2 : Nat → Int32 → Int32 → Int32 → Hp → Option (Int32 × Hp)) (a0 : Nat) (a1 : Int32) (a2 : Int32) (a3 : Int32) (h : Hp) : Option (Int32 × Hp) :=
  (gI h a0 8 3).bind fun v101 =>
  if v101 ≤ a3 then (
    rZ 0 h)
  else (
    cV h a0 8 (X8_cell a0 a3 a1 h) fun v103 h102 =>
    if v103 = a2 then (
      rZ 1 h102)
    else (
      rc2 a0 a1 a2 (a3 + 1) h102))
def X8_holds_L2 (q : Nat) : Nat → Int32 → Int32 → Int32 → Hp → Option (Int32 × Hp) := loopN (fun _ _ _ _ _ => none) (X8_holds_L2_s) q
theorem X8_holds_L2_ok {hh h' : Hp} {r : Int32}  : ∀ (q : Nat) (a0 : Nat) (a1 : Int32) (a2 : Int32) (a3 : Int32) (h : Hp), X8_holds_L2 q a0 a1 a2 a3 h = some (r, h') → Go (PM M_X8_holds hh (some (.int r)) h') M_X8_holds 2 [some (.ref a0), some (.int a1), some (.int a2), some (.int a3)] [] h 0 0 := by
  intro q
  induction q with
  | zero => intro a0 a1 a2 a3 h H; cases H
  | succ q hrc2 =>
    intro a0 a1 a2 a3 h H
    replace H : X8_holds_L2_s (X8_holds_L2 q) a0 a1 a2 a3 h = some (r, h') := H
    unfold X8_holds_L2_s at H
    refine go_iload_n (pc := 2) dX8_holds_2 rfl rfl ?_
    refine go_aload_n (pc := 3) dX8_holds_3 rfl rfl ?_
    refine go_getI (pc := 4) dX8_holds_4 fl_X8_26 H (fun v101 H => ?_)
    refine go_icmp_ge (pc := 7) (tgt := 28) dX8_holds_7 (by decide) H (fun H => ?_) (fun H => ?_)
    · refine go_iconst (pc := 28) (v := 0) dX8_holds_28 (by decide) ?_
      exact go_zret (pc := 29) dX8_holds_29 rfl ⟨Nat.le_of_ble_eq_true rfl, Nat.le_of_ble_eq_true rfl⟩ H
    · refine go_aload_n (pc := 10) dX8_holds_10 rfl rfl ?_
      refine go_iload_n (pc := 11) dX8_holds_11 rfl rfl ?_
      refine go_iload_n (pc := 12) dX8_holds_12 rfl rfl ?_
      refine go_cVi (pc := 13) (Mz := M_X8_cell) (as := [.int a3, .int a1]) (a := a0) (st := []) dX8_holds_13 wd_687 cv_X8_cell X8_cell_ok rfl rfl ⟨Nat.le_of_ble_eq_true rfl, Nat.le_of_ble_eq_true rfl⟩ (Nat.le_of_ble_eq_true rfl) ⟨rfl, rfl⟩ ⟨Nat.le_of_ble_eq_true rfl, Nat.le_of_ble_eq_true rfl⟩ H (fun v103 h102 H => ?_)
      refine go_iload_n (pc := 16) dX8_holds_16 rfl rfl ?_
      refine go_icmp_ne (pc := 17) (tgt := 22) dX8_holds_17 (by decide) H (fun H => ?_) (fun H => ?_)
      · refine go_iinc (pc := 22) (v := a3 + 1) (L' := [some (.ref a0), some (.int a1), some (.int a2), some (.int (a3 + 1))]) dX8_holds_22 rfl rfl (Nat.le_of_ble_eq_true rfl) rfl ?_
        refine go_goto (pc := 25) (tgt := 2) dX8_holds_25 (by decide) ?_
        exact Go.weak (L' := [some (.ref a0), some (.int a1), some (.int a2), some (.int (a3 + 1))]) ⟨rfl, ⟨rfl, ⟨rfl, ⟨rfl, trivial⟩⟩⟩⟩ (hrc2 a0 a1 a2 (a3 + 1) h102 H)
      · refine go_iconst (pc := 20) (v := 1) dX8_holds_20 (by decide) ?_
        exact go_zret (pc := 21) dX8_holds_21 rfl ⟨Nat.le_of_ble_eq_true rfl, Nat.le_of_ble_eq_true rfl⟩ H

def X8_holds (a0 : Nat) (a1 : Int32) (a2 : Int32) (h : Hp) : Option (Int32 × Hp) :=
  X8_holds_L2 5000 a0 a1 a2 0 h
theorem X8_holds_ok {a0 : Nat} {a1 : Int32} {a2 : Int32} {h h' : Hp} {r : Int32} (H : X8_holds a0 a1 a2 h = some (r, h')) : Con M_X8_holds [.ref a0, .int a1, .int a2] h (some (.int r)) h' := by
  refine con_of_go (by decide) 1 (L := [some (.ref a0), some (.int a1), some (.int a2), none]) rfl (Nat.le_of_ble_eq_true rfl) ?_
  unfold X8_holds at H
  refine go_iconst (pc := 0) (v := 0) dX8_holds_0 (by decide) ?_
  refine go_istore_n (pc := 1) (L' := [some (.ref a0), some (.int a1), some (.int a2), some (.int 0)]) dX8_holds_1 rfl (Nat.le_of_ble_eq_true rfl) rfl ?_
  exact Go.weak (L' := [some (.ref a0), some (.int a1), some (.int a2), some (.int 0)]) ⟨rfl, ⟨rfl, ⟨rfl, ⟨rfl, trivial⟩⟩⟩⟩ (X8_holds_L2_ok 5000 a0 a1 a2 0 h H)

def M_X8_copyFrom : MD := (yX8_copyFrom, cX8_copyFrom, 3, none, 0, 0, 0, 0)
theorem cv_X8_copyFrom : CVo M_X8_copyFrom 1 8 := ⟨⟨wd_953, wd_111, ⟨by decide, by decide⟩, by decide +kernel⟩, wd_951, wd_952, _, rfl, rfl⟩
def X8_copyFrom_L10_s (rc10 : Nat → Nat → Int32 → Hp → Option (Hp)) (a0 : Nat) (a1 : Nat) (a2 : Int32) (h : Hp) : Option (Hp) :=
  (gR h a0 8 2).bind fun v101 =>
  (aN h v101).bind fun v102 =>
  if v102 ≤ a2 then (
    some h)
  else (
    (gR h a1 8 2).bind fun v103 =>
    (aN h v103).bind fun v104 =>
    if v104 ≤ a2 then (
      some h)
    else (
      (gR h a0 8 2).bind fun v105 =>
      (gR h a1 8 2).bind fun v106 =>
      (aI h v106 a2).bind fun v107 =>
      (sI h v105 a2 v107).bind fun h108 =>
      rc10 a0 a1 (a2 + 1) h108))
def X8_copyFrom_L10 (q : Nat) : Nat → Nat → Int32 → Hp → Option (Hp) := loopN (fun _ _ _ _ => none) (X8_copyFrom_L10_s) q
theorem X8_copyFrom_L10_ok {hh h' : Hp}  : ∀ (q : Nat) (a0 : Nat) (a1 : Nat) (a2 : Int32) (h : Hp), X8_copyFrom_L10 q a0 a1 a2 h = some h' → Go (PM M_X8_copyFrom hh none h') M_X8_copyFrom 10 [some (.ref a0), some (.ref a1), some (.int a2)] [] h 0 0 := by
  intro q
  induction q with
  | zero => intro a0 a1 a2 h H; cases H
  | succ q hrc10 =>
    intro a0 a1 a2 h H
    replace H : X8_copyFrom_L10_s (X8_copyFrom_L10 q) a0 a1 a2 h = some h' := H
    unfold X8_copyFrom_L10_s at H
    refine go_iload_n (pc := 10) dX8_copyFrom_10 rfl rfl ?_
    refine go_aload_n (pc := 11) dX8_copyFrom_11 rfl rfl ?_
    refine go_getR (pc := 12) dX8_copyFrom_12 fl_X8_22 H (fun v101 H => ?_)
    refine go_alen (pc := 15) dX8_copyFrom_15 H (fun v102 H => ?_)
    refine go_icmp_ge (pc := 16) (tgt := 46) dX8_copyFrom_16 (by decide) H (fun H => ?_) (fun H => ?_)
    · exact go_vret (pc := 46) dX8_copyFrom_46 rfl ⟨Nat.le_of_ble_eq_true rfl, Nat.le_of_ble_eq_true rfl⟩ H
    · refine go_iload_n (pc := 19) dX8_copyFrom_19 rfl rfl ?_
      refine go_aload_n (pc := 20) dX8_copyFrom_20 rfl rfl ?_
      refine go_getR (pc := 21) dX8_copyFrom_21 fl_X8_22 H (fun v103 H => ?_)
      refine go_alen (pc := 24) dX8_copyFrom_24 H (fun v104 H => ?_)
      refine go_icmp_ge (pc := 25) (tgt := 46) dX8_copyFrom_25 (by decide) H (fun H => ?_) (fun H => ?_)
      · exact go_vret (pc := 46) dX8_copyFrom_46 rfl ⟨Nat.le_of_ble_eq_true rfl, Nat.le_of_ble_eq_true rfl⟩ H
      · refine go_aload_n (pc := 28) dX8_copyFrom_28 rfl rfl ?_
        refine go_getR (pc := 29) dX8_copyFrom_29 fl_X8_22 H (fun v105 H => ?_)
        refine go_iload_n (pc := 32) dX8_copyFrom_32 rfl rfl ?_
        refine go_aload_n (pc := 33) dX8_copyFrom_33 rfl rfl ?_
        refine go_getR (pc := 34) dX8_copyFrom_34 fl_X8_22 H (fun v106 H => ?_)
        refine go_iload_n (pc := 37) dX8_copyFrom_37 rfl rfl ?_
        refine go_iaload (pc := 38) dX8_copyFrom_38 H (fun v107 H => ?_)
        refine go_iastore (pc := 39) dX8_copyFrom_39 H (fun h108 H => ?_)
        refine go_iinc (pc := 40) (v := a2 + 1) (L' := [some (.ref a0), some (.ref a1), some (.int (a2 + 1))]) dX8_copyFrom_40 rfl rfl (Nat.le_of_ble_eq_true rfl) rfl ?_
        refine go_goto (pc := 43) (tgt := 10) dX8_copyFrom_43 (by decide) ?_
        exact Go.weak (L' := [some (.ref a0), some (.ref a1), some (.int (a2 + 1))]) ⟨rfl, ⟨rfl, ⟨rfl, trivial⟩⟩⟩ (hrc10 a0 a1 (a2 + 1) h108 H)

def X8_copyFrom (a0 : Nat) (a1 : Nat) (h : Hp) : Option (Hp) :=
  (gI h a1 8 3).bind fun v1 =>
  (pF h a0 8 3 (.int v1)).bind fun h2 =>
  X8_copyFrom_L10 5000 a0 a1 0 h2
theorem X8_copyFrom_ok {a0 : Nat} {a1 : Nat} {h h' : Hp} (H : X8_copyFrom a0 a1 h = some h') : Con M_X8_copyFrom [.ref a0, .ref a1] h none h' := by
  refine con_of_go (by decide) 1 (L := [some (.ref a0), some (.ref a1), none]) rfl (Nat.le_of_ble_eq_true rfl) ?_
  unfold X8_copyFrom at H
  refine go_aload_n (pc := 0) dX8_copyFrom_0 rfl rfl ?_
  refine go_aload_n (pc := 1) dX8_copyFrom_1 rfl rfl ?_
  refine go_getI (pc := 2) dX8_copyFrom_2 fl_X8_26 H (fun v1 H => ?_)
  refine go_putI (pc := 5) dX8_copyFrom_5 fs_X8_26 H (fun h2 H => ?_)
  refine go_iconst (pc := 8) (v := 0) dX8_copyFrom_8 (by decide) ?_
  refine go_istore_n (pc := 9) (L' := [some (.ref a0), some (.ref a1), some (.int 0)]) dX8_copyFrom_9 rfl (Nat.le_of_ble_eq_true rfl) rfl ?_
  exact Go.weak (L' := [some (.ref a0), some (.ref a1), some (.int 0)]) ⟨rfl, ⟨rfl, ⟨rfl, trivial⟩⟩⟩ (X8_copyFrom_L10_ok 5000 a0 a1 0 h2 H)
