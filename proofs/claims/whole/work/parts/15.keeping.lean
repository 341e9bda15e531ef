/-! 15.keeping: written by wip/whole/gen/all.py -/
theorem dX4_init_0 : decode cX4_init 0 = .ok (.aload_n 0, 1) := by decide +kernel
theorem dX4_init_1 : decode cX4_init 1 = .ok (.invokespecial 3, 3) := by decide +kernel
theorem dX4_init_4 : decode cX4_init 4 = .ok (.aload_n 0, 1) := by decide +kernel
theorem dX4_init_5 : decode cX4_init 5 = .ok (.new 9, 3) := by decide +kernel
theorem dX4_init_8 : decode cX4_init 8 = .ok (.dup, 1) := by decide +kernel
theorem dX4_init_9 : decode cX4_init 9 = .ok (.bipush 12, 2) := by decide +kernel
theorem dX4_init_11 : decode cX4_init 11 = .ok (.iconst 3, 1) := by decide +kernel
theorem dX4_init_12 : decode cX4_init 12 = .ok (.invokespecial 11, 3) := by decide +kernel
theorem dX4_init_15 : decode cX4_init 15 = .ok (.putfield 14, 3) := by decide +kernel
theorem dX4_init_18 : decode cX4_init 18 = .ok (.aload_n 0, 1) := by decide +kernel
theorem dX4_init_19 : decode cX4_init 19 = .ok (.new 9, 3) := by decide +kernel
theorem dX4_init_22 : decode cX4_init 22 = .ok (.dup, 1) := by decide +kernel
theorem dX4_init_23 : decode cX4_init 23 = .ok (.iconst 5, 1) := by decide +kernel
theorem dX4_init_24 : decode cX4_init 24 = .ok (.iconst 1, 1) := by decide +kernel
theorem dX4_init_25 : decode cX4_init 25 = .ok (.invokespecial 11, 3) := by decide +kernel
theorem dX4_init_28 : decode cX4_init 28 = .ok (.putfield 20, 3) := by decide +kernel
theorem dX4_init_31 : decode cX4_init 31 = .ok (.aload_n 0, 1) := by decide +kernel
theorem dX4_init_32 : decode cX4_init 32 = .ok (.iconst (-1), 1) := by decide +kernel
theorem dX4_init_33 : decode cX4_init 33 = .ok (.putfield 23, 3) := by decide +kernel
theorem dX4_init_36 : decode cX4_init 36 = .ok (.return_, 1) := by decide +kernel
theorem dX4_setAsTold_0 : decode cX4_setAsTold 0 = .ok (.iconst 0, 1) := by decide +kernel
theorem dX4_setAsTold_1 : decode cX4_setAsTold 1 = .ok (.istore_n 2, 1) := by decide +kernel
theorem dX4_setAsTold_2 : decode cX4_setAsTold 2 = .ok (.iload_n 2, 1) := by decide +kernel
theorem dX4_setAsTold_3 : decode cX4_setAsTold 3 = .ok (.aload_n 1, 1) := by decide +kernel
theorem dX4_setAsTold_4 : decode cX4_setAsTold 4 = .ok (.getfield 27, 3) := by decide +kernel
theorem dX4_setAsTold_7 : decode cX4_setAsTold 7 = .ok (.getfield 30, 3) := by decide +kernel
theorem dX4_setAsTold_10 : decode cX4_setAsTold 10 = .ok (.if_icmp .ge 55, 3) := by decide +kernel
theorem dX4_setAsTold_13 : decode cX4_setAsTold 13 = .ok (.aload_n 0, 1) := by decide +kernel
theorem dX4_setAsTold_14 : decode cX4_setAsTold 14 = .ok (.getfield 14, 3) := by decide +kernel
theorem dX4_setAsTold_17 : decode cX4_setAsTold 17 = .ok (.iload_n 2, 1) := by decide +kernel
theorem dX4_setAsTold_18 : decode cX4_setAsTold 18 = .ok (.iconst 0, 1) := by decide +kernel
theorem dX4_setAsTold_19 : decode cX4_setAsTold 19 = .ok (.aload_n 1, 1) := by decide +kernel
theorem dX4_setAsTold_20 : decode cX4_setAsTold 20 = .ok (.getfield 27, 3) := by decide +kernel
theorem dX4_setAsTold_23 : decode cX4_setAsTold 23 = .ok (.iload_n 2, 1) := by decide +kernel
theorem dX4_setAsTold_24 : decode cX4_setAsTold 24 = .ok (.iconst 0, 1) := by decide +kernel
theorem dX4_setAsTold_25 : decode cX4_setAsTold 25 = .ok (.invokevirtual 33, 3) := by decide +kernel
theorem dX4_setAsTold_28 : decode cX4_setAsTold 28 = .ok (.invokevirtual 37, 3) := by decide +kernel
theorem dX4_setAsTold_31 : decode cX4_setAsTold 31 = .ok (.aload_n 0, 1) := by decide +kernel
theorem dX4_setAsTold_32 : decode cX4_setAsTold 32 = .ok (.getfield 14, 3) := by decide +kernel
theorem dX4_setAsTold_35 : decode cX4_setAsTold 35 = .ok (.iload_n 2, 1) := by decide +kernel
theorem dX4_setAsTold_36 : decode cX4_setAsTold 36 = .ok (.iconst 1, 1) := by decide +kernel
theorem dX4_setAsTold_37 : decode cX4_setAsTold 37 = .ok (.aload_n 1, 1) := by decide +kernel
theorem dX4_setAsTold_38 : decode cX4_setAsTold 38 = .ok (.getfield 27, 3) := by decide +kernel
theorem dX4_setAsTold_41 : decode cX4_setAsTold 41 = .ok (.iload_n 2, 1) := by decide +kernel
theorem dX4_setAsTold_42 : decode cX4_setAsTold 42 = .ok (.iconst 2, 1) := by decide +kernel
theorem dX4_setAsTold_43 : decode cX4_setAsTold 43 = .ok (.invokevirtual 33, 3) := by decide +kernel
theorem dX4_setAsTold_46 : decode cX4_setAsTold 46 = .ok (.invokevirtual 37, 3) := by decide +kernel
theorem dX4_setAsTold_49 : decode cX4_setAsTold 49 = .ok (.aload_n 0, 1) := by decide +kernel
theorem dX4_setAsTold_50 : decode cX4_setAsTold 50 = .ok (.getfield 14, 3) := by decide +kernel
theorem dX4_setAsTold_53 : decode cX4_setAsTold 53 = .ok (.iload_n 2, 1) := by decide +kernel
theorem dX4_setAsTold_54 : decode cX4_setAsTold 54 = .ok (.iconst 2, 1) := by decide +kernel
theorem dX4_setAsTold_55 : decode cX4_setAsTold 55 = .ok (.iconst 0, 1) := by decide +kernel
theorem dX4_setAsTold_56 : decode cX4_setAsTold 56 = .ok (.invokevirtual 37, 3) := by decide +kernel
theorem dX4_setAsTold_59 : decode cX4_setAsTold 59 = .ok (.iinc 2 1, 3) := by decide +kernel
theorem dX4_setAsTold_62 : decode cX4_setAsTold 62 = .ok (.goto (-60), 3) := by decide +kernel
theorem dX4_setAsTold_65 : decode cX4_setAsTold 65 = .ok (.iconst 0, 1) := by decide +kernel
theorem dX4_setAsTold_66 : decode cX4_setAsTold 66 = .ok (.istore_n 2, 1) := by decide +kernel
theorem dX4_setAsTold_67 : decode cX4_setAsTold 67 = .ok (.iload_n 2, 1) := by decide +kernel
theorem dX4_setAsTold_68 : decode cX4_setAsTold 68 = .ok (.aload_n 1, 1) := by decide +kernel
theorem dX4_setAsTold_69 : decode cX4_setAsTold 69 = .ok (.getfield 41, 3) := by decide +kernel
theorem dX4_setAsTold_72 : decode cX4_setAsTold 72 = .ok (.getfield 30, 3) := by decide +kernel
theorem dX4_setAsTold_75 : decode cX4_setAsTold 75 = .ok (.if_icmp .ge 27, 3) := by decide +kernel
theorem dX4_setAsTold_78 : decode cX4_setAsTold 78 = .ok (.aload_n 0, 1) := by decide +kernel
theorem dX4_setAsTold_79 : decode cX4_setAsTold 79 = .ok (.getfield 20, 3) := by decide +kernel
theorem dX4_setAsTold_82 : decode cX4_setAsTold 82 = .ok (.iload_n 2, 1) := by decide +kernel
theorem dX4_setAsTold_83 : decode cX4_setAsTold 83 = .ok (.iconst 0, 1) := by decide +kernel
theorem dX4_setAsTold_84 : decode cX4_setAsTold 84 = .ok (.aload_n 1, 1) := by decide +kernel
theorem dX4_setAsTold_85 : decode cX4_setAsTold 85 = .ok (.getfield 41, 3) := by decide +kernel
theorem dX4_setAsTold_88 : decode cX4_setAsTold 88 = .ok (.iload_n 2, 1) := by decide +kernel
theorem dX4_setAsTold_89 : decode cX4_setAsTold 89 = .ok (.iconst 1, 1) := by decide +kernel
theorem dX4_setAsTold_90 : decode cX4_setAsTold 90 = .ok (.invokevirtual 33, 3) := by decide +kernel
theorem dX4_setAsTold_93 : decode cX4_setAsTold 93 = .ok (.invokevirtual 37, 3) := by decide +kernel
theorem dX4_setAsTold_96 : decode cX4_setAsTold 96 = .ok (.iinc 2 1, 3) := by decide +kernel
theorem dX4_setAsTold_99 : decode cX4_setAsTold 99 = .ok (.goto (-32), 3) := by decide +kernel
theorem dX4_setAsTold_102 : decode cX4_setAsTold 102 = .ok (.aload_n 0, 1) := by decide +kernel
theorem dX4_setAsTold_103 : decode cX4_setAsTold 103 = .ok (.iconst (-1), 1) := by decide +kernel
theorem dX4_setAsTold_104 : decode cX4_setAsTold 104 = .ok (.putfield 23, 3) := by decide +kernel
theorem dX4_setAsTold_107 : decode cX4_setAsTold 107 = .ok (.return_, 1) := by decide +kernel
theorem dX4_copyFrom_0 : decode cX4_copyFrom 0 = .ok (.aload_n 0, 1) := by decide +kernel
theorem dX4_copyFrom_1 : decode cX4_copyFrom 1 = .ok (.getfield 14, 3) := by decide +kernel
theorem dX4_copyFrom_4 : decode cX4_copyFrom 4 = .ok (.aload_n 1, 1) := by decide +kernel
theorem dX4_copyFrom_5 : decode cX4_copyFrom 5 = .ok (.getfield 14, 3) := by decide +kernel
theorem dX4_copyFrom_8 : decode cX4_copyFrom 8 = .ok (.invokevirtual 44, 3) := by decide +kernel
theorem dX4_copyFrom_11 : decode cX4_copyFrom 11 = .ok (.aload_n 0, 1) := by decide +kernel
theorem dX4_copyFrom_12 : decode cX4_copyFrom 12 = .ok (.getfield 20, 3) := by decide +kernel
theorem dX4_copyFrom_15 : decode cX4_copyFrom 15 = .ok (.aload_n 1, 1) := by decide +kernel
theorem dX4_copyFrom_16 : decode cX4_copyFrom 16 = .ok (.getfield 20, 3) := by decide +kernel
theorem dX4_copyFrom_19 : decode cX4_copyFrom 19 = .ok (.invokevirtual 44, 3) := by decide +kernel
theorem dX4_copyFrom_22 : decode cX4_copyFrom 22 = .ok (.aload_n 0, 1) := by decide +kernel
theorem dX4_copyFrom_23 : decode cX4_copyFrom 23 = .ok (.aload_n 1, 1) := by decide +kernel
theorem dX4_copyFrom_24 : decode cX4_copyFrom 24 = .ok (.getfield 23, 3) := by decide +kernel
theorem dX4_copyFrom_27 : decode cX4_copyFrom 27 = .ok (.putfield 23, 3) := by decide +kernel
theorem dX4_copyFrom_30 : decode cX4_copyFrom 30 = .ok (.return_, 1) := by decide +kernel
theorem dX4_attendAll_0 : decode cX4_attendAll 0 = .ok (.iconst 0, 1) := by decide +kernel
theorem dX4_attendAll_1 : decode cX4_attendAll 1 = .ok (.istore_n 2, 1) := by decide +kernel
theorem dX4_attendAll_2 : decode cX4_attendAll 2 = .ok (.iload_n 2, 1) := by decide +kernel
theorem dX4_attendAll_3 : decode cX4_attendAll 3 = .ok (.bipush 12, 2) := by decide +kernel
theorem dX4_attendAll_5 : decode cX4_attendAll 5 = .ok (.if_icmp .ge 27, 3) := by decide +kernel
theorem dX4_attendAll_8 : decode cX4_attendAll 8 = .ok (.iload_n 1, 1) := by decide +kernel
theorem dX4_attendAll_9 : decode cX4_attendAll 9 = .ok (.iload_n 2, 1) := by decide +kernel
theorem dX4_attendAll_10 : decode cX4_attendAll 10 = .ok (.ishr, 1) := by decide +kernel
theorem dX4_attendAll_11 : decode cX4_attendAll 11 = .ok (.iconst 1, 1) := by decide +kernel
theorem dX4_attendAll_12 : decode cX4_attendAll 12 = .ok (.iand, 1) := by decide +kernel
theorem dX4_attendAll_13 : decode cX4_attendAll 13 = .ok (.ifCond .eq 13, 3) := by decide +kernel
theorem dX4_attendAll_16 : decode cX4_attendAll 16 = .ok (.aload_n 0, 1) := by decide +kernel
theorem dX4_attendAll_17 : decode cX4_attendAll 17 = .ok (.getfield 14, 3) := by decide +kernel
theorem dX4_attendAll_20 : decode cX4_attendAll 20 = .ok (.iload_n 2, 1) := by decide +kernel
theorem dX4_attendAll_21 : decode cX4_attendAll 21 = .ok (.iconst 2, 1) := by decide +kernel
theorem dX4_attendAll_22 : decode cX4_attendAll 22 = .ok (.iconst 1, 1) := by decide +kernel
theorem dX4_attendAll_23 : decode cX4_attendAll 23 = .ok (.invokevirtual 37, 3) := by decide +kernel
theorem dX4_attendAll_26 : decode cX4_attendAll 26 = .ok (.iinc 2 1, 3) := by decide +kernel
theorem dX4_attendAll_29 : decode cX4_attendAll 29 = .ok (.goto (-27), 3) := by decide +kernel
theorem dX4_attendAll_32 : decode cX4_attendAll 32 = .ok (.return_, 1) := by decide +kernel
def M_X4_init : MD := (yX4_init, cX4_init, 1, none, 2, 43, 4, 104)
theorem ci_X4_init : CIo M_X4_init 0 := ⟨⟨wd_305, wd_114, ⟨by decide, by decide⟩, by decide +kernel⟩, wd_304, rfl, rfl⟩
def X4_init (a0 : Nat) (h : Hp) : Option (Hp) :=
  pin (nw h (.inr (8, [.int 0, .int 0, .null, .int 0]))) fun h1 =>
  (X8_init h.1 12 3 h1).bind fun h2 =>
  (pF h2 a0 4 0 (.ref h.1)).bind fun h3 =>
  pin (nw h3 (.inr (8, [.int 0, .int 0, .null, .int 0]))) fun h4 =>
  (X8_init h3.1 5 1 h4).bind fun h5 =>
  (pF h5 a0 4 1 (.ref h3.1)).bind fun h6 =>
  (pF h6 a0 4 2 (.int (-1))).bind fun h7 =>
  some h7
theorem X4_init_ok {a0 : Nat} {h h' : Hp} (H : X4_init a0 h = some h') : Con M_X4_init [.ref a0] h none h' := by
  refine con_of_go (by decide) 0 (L := [some (.ref a0)]) rfl (Nat.le_of_ble_eq_true rfl) ?_
  unfold X4_init at H
  refine go_aload_n (pc := 0) dX4_init_0 rfl rfl ?_
  refine go_objInit (pc := 1) dX4_init_1 wd_306 wd_137 wd_138 (Nat.le_of_ble_eq_true rfl) (Nat.le_of_ble_eq_true rfl) ?_
  refine go_aload_n (pc := 4) dX4_init_4 rfl rfl ?_
  refine go_new (pc := 5) dX4_init_5 nl_X4_9 (Nat.le_of_ble_eq_true rfl) (Nat.le_of_ble_eq_true rfl) ?_
  refine go_pinH H (fun h1 H => ?_)
  refine go_dup (pc := 8) dX4_init_8 rfl ?_
  refine go_bipush (pc := 9) (v := 12) dX4_init_9 (by decide) ?_
  refine go_iconst (pc := 11) (v := 3) dX4_init_11 (by decide) ?_
  refine go_cIv (pc := 12) (Mz := M_X8_init) (as := [.int 12, .int 3]) (a := h.1) (st := [.ref h.1, .ref a0]) dX4_init_12 wd_308 ci_X8_init X8_init_ok rfl rfl ⟨Nat.le_of_ble_eq_true rfl, Nat.le_of_ble_eq_true rfl⟩ (Nat.le_of_ble_eq_true rfl) ⟨Nat.le_of_ble_eq_true rfl, Nat.le_of_ble_eq_true rfl⟩ H (fun h2 H => ?_)
  refine go_putRF (pc := 15) dX4_init_15 fs_X4_14 ⟨rfl, _, rfl, rfl⟩ H (fun h3 H => ?_)
  refine go_aload_n (pc := 18) dX4_init_18 rfl rfl ?_
  refine go_new (pc := 19) dX4_init_19 nl_X4_9 (Nat.le_of_ble_eq_true rfl) (Nat.le_of_ble_eq_true rfl) ?_
  refine go_pinH H (fun h4 H => ?_)
  refine go_dup (pc := 22) dX4_init_22 rfl ?_
  refine go_iconst (pc := 23) (v := 5) dX4_init_23 (by decide) ?_
  refine go_iconst (pc := 24) (v := 1) dX4_init_24 (by decide) ?_
  refine go_cIv (pc := 25) (Mz := M_X8_init) (as := [.int 5, .int 1]) (a := h3.1) (st := [.ref h3.1, .ref a0]) dX4_init_25 wd_308 ci_X8_init X8_init_ok rfl rfl ⟨Nat.le_of_ble_eq_true rfl, Nat.le_of_ble_eq_true rfl⟩ (Nat.le_of_ble_eq_true rfl) ⟨Nat.le_of_ble_eq_true rfl, Nat.le_of_ble_eq_true rfl⟩ H (fun h5 H => ?_)
  refine go_putRF (pc := 28) dX4_init_28 fs_X4_20 ⟨rfl, _, rfl, rfl⟩ H (fun h6 H => ?_)
  refine go_aload_n (pc := 31) dX4_init_31 rfl rfl ?_
  refine go_iconst (pc := 32) (v := (-1)) dX4_init_32 (by decide) ?_
  refine go_putI (pc := 33) dX4_init_33 fs_X4_23 H (fun h7 H => ?_)
  exact go_vret (pc := 36) dX4_init_36 rfl ⟨Nat.le_of_ble_eq_true rfl, Nat.le_of_ble_eq_true rfl⟩ H

def M_X4_setAsTold : MD := (yX4_setAsTold, cX4_setAsTold, 3, none, 1, 23, 0, 0)
theorem cv_X4_setAsTold : CVo M_X4_setAsTold 1 4 := ⟨⟨wd_730, wd_114, ⟨by decide, by decide⟩, by decide +kernel⟩, wd_728, wd_729, _, rfl, rfl⟩
def X4_setAsTold_L67_s (rc67 : Nat → Nat → Int32 → Hp → Option (Hp)) (a0 : Nat) (a1 : Nat) (a2 : Int32) (h : Hp) : Option (Hp) :=
  (gR h a1 9 0).bind fun v201 =>
  (gI h v201 8 3).bind fun v202 =>
  if v202 ≤ a2 then (
    (pF h a0 4 2 (.int (-1))).bind fun h203 =>
    some h203)
  else (
    (gR h a0 4 1).bind fun v204 =>
    (gR h a1 9 0).bind fun v205 =>
    cV h v205 8 (X8_cell v205 a2 1 h) fun v207 h206 =>
    cVv h206 v204 8 (X8_put v204 a2 0 v207 h206) fun h208 =>
    rc67 a0 a1 (a2 + 1) h208)
def X4_setAsTold_L67 (q : Nat) : Nat → Nat → Int32 → Hp → Option (Hp) := loopN (fun _ _ _ _ => none) (X4_setAsTold_L67_s) q
theorem X4_setAsTold_L67_ok {hh h' : Hp}  : ∀ (q : Nat) (a0 : Nat) (a1 : Nat) (a2 : Int32) (h : Hp), X4_setAsTold_L67 q a0 a1 a2 h = some h' → Go (PM M_X4_setAsTold hh none h') M_X4_setAsTold 67 [some (.ref a0), some (.ref a1), some (.int a2)] [] h 0 0 := by
  intro q
  induction q with
  | zero => intro a0 a1 a2 h H; cases H
  | succ q hrc67 =>
    intro a0 a1 a2 h H
    replace H : X4_setAsTold_L67_s (X4_setAsTold_L67 q) a0 a1 a2 h = some h' := H
    unfold X4_setAsTold_L67_s at H
    refine go_iload_n (pc := 67) dX4_setAsTold_67 rfl rfl ?_
    refine go_aload_n (pc := 68) dX4_setAsTold_68 rfl rfl ?_
    refine go_getR (pc := 69) dX4_setAsTold_69 fl_X4_41 H (fun v201 H => ?_)
    refine go_getI (pc := 72) dX4_setAsTold_72 fl_X4_30 H (fun v202 H => ?_)
    refine go_icmp_ge (pc := 75) (tgt := 102) dX4_setAsTold_75 (by decide) H (fun H => ?_) (fun H => ?_)
    · refine go_aload_n (pc := 102) dX4_setAsTold_102 rfl rfl ?_
      refine go_iconst (pc := 103) (v := (-1)) dX4_setAsTold_103 (by decide) ?_
      refine go_putI (pc := 104) dX4_setAsTold_104 fs_X4_23 H (fun h203 H => ?_)
      exact go_vret (pc := 107) dX4_setAsTold_107 rfl ⟨Nat.le_of_ble_eq_true rfl, Nat.le_of_ble_eq_true rfl⟩ H
    · refine go_aload_n (pc := 78) dX4_setAsTold_78 rfl rfl ?_
      refine go_getR (pc := 79) dX4_setAsTold_79 fl_X4_20 H (fun v204 H => ?_)
      refine go_iload_n (pc := 82) dX4_setAsTold_82 rfl rfl ?_
      refine go_iconst (pc := 83) (v := 0) dX4_setAsTold_83 (by decide) ?_
      refine go_aload_n (pc := 84) dX4_setAsTold_84 rfl rfl ?_
      refine go_getR (pc := 85) dX4_setAsTold_85 fl_X4_41 H (fun v205 H => ?_)
      refine go_iload_n (pc := 88) dX4_setAsTold_88 rfl rfl ?_
      refine go_iconst (pc := 89) (v := 1) dX4_setAsTold_89 (by decide) ?_
      refine go_cVi (pc := 90) (Mz := M_X8_cell) (as := [.int a2, .int 1]) (a := v205) (st := [.int 0, .int a2, .ref v204]) dX4_setAsTold_90 wd_731 cv_X8_cell X8_cell_ok rfl rfl ⟨Nat.le_of_ble_eq_true rfl, Nat.le_of_ble_eq_true rfl⟩ (Nat.le_of_ble_eq_true rfl) ⟨rfl, rfl⟩ ⟨Nat.le_of_ble_eq_true rfl, Nat.le_of_ble_eq_true rfl⟩ H (fun v207 h206 H => ?_)
      refine go_cVv (pc := 93) (Mz := M_X8_put) (as := [.int a2, .int 0, .int v207]) (a := v204) (st := []) dX4_setAsTold_93 wd_732 cv_X8_put X8_put_ok rfl rfl ⟨Nat.le_of_ble_eq_true rfl, Nat.le_of_ble_eq_true rfl⟩ (Nat.le_of_ble_eq_true rfl) ⟨rfl, rfl⟩ ⟨Nat.le_of_ble_eq_true rfl, Nat.le_of_ble_eq_true rfl⟩ H (fun h208 H => ?_)
      refine go_iinc (pc := 96) (v := a2 + 1) (L' := [some (.ref a0), some (.ref a1), some (.int (a2 + 1))]) dX4_setAsTold_96 rfl rfl (Nat.le_of_ble_eq_true rfl) rfl ?_
      refine go_goto (pc := 99) (tgt := 67) dX4_setAsTold_99 (by decide) ?_
      exact Go.weak (L' := [some (.ref a0), some (.ref a1), some (.int (a2 + 1))]) ⟨rfl, ⟨rfl, ⟨rfl, trivial⟩⟩⟩ (hrc67 a0 a1 (a2 + 1) h208 H)

def X4_setAsTold_L2_s (rc2 : Nat → Nat → Int32 → Hp → Option (Hp)) (a0 : Nat) (a1 : Nat) (a2 : Int32) (h : Hp) : Option (Hp) :=
  (gR h a1 9 2).bind fun v101 =>
  (gI h v101 8 3).bind fun v102 =>
  if v102 ≤ a2 then (
    X4_setAsTold_L67 5000 a0 a1 0 h)
  else (
    (gR h a0 4 0).bind fun v103 =>
    (gR h a1 9 2).bind fun v104 =>
    cV h v104 8 (X8_cell v104 a2 0 h) fun v106 h105 =>
    cVv h105 v103 8 (X8_put v103 a2 0 v106 h105) fun h107 =>
    (gR h107 a0 4 0).bind fun v108 =>
    (gR h107 a1 9 2).bind fun v109 =>
    cV h107 v109 8 (X8_cell v109 a2 2 h107) fun v111 h110 =>
    cVv h110 v108 8 (X8_put v108 a2 1 v111 h110) fun h112 =>
    (gR h112 a0 4 0).bind fun v113 =>
    cVv h112 v113 8 (X8_put v113 a2 2 0 h112) fun h114 =>
    rc2 a0 a1 (a2 + 1) h114)
def X4_setAsTold_L2 (q : Nat) : Nat → Nat → Int32 → Hp → Option (Hp) := loopN (fun _ _ _ _ => none) (X4_setAsTold_L2_s) q
theorem X4_setAsTold_L2_ok {hh h' : Hp}  : ∀ (q : Nat) (a0 : Nat) (a1 : Nat) (a2 : Int32) (h : Hp), X4_setAsTold_L2 q a0 a1 a2 h = some h' → Go (PM M_X4_setAsTold hh none h') M_X4_setAsTold 2 [some (.ref a0), some (.ref a1), some (.int a2)] [] h 0 0 := by
  intro q
  induction q with
  | zero => intro a0 a1 a2 h H; cases H
  | succ q hrc2 =>
    intro a0 a1 a2 h H
    replace H : X4_setAsTold_L2_s (X4_setAsTold_L2 q) a0 a1 a2 h = some h' := H
    unfold X4_setAsTold_L2_s at H
    refine go_iload_n (pc := 2) dX4_setAsTold_2 rfl rfl ?_
    refine go_aload_n (pc := 3) dX4_setAsTold_3 rfl rfl ?_
    refine go_getR (pc := 4) dX4_setAsTold_4 fl_X4_27 H (fun v101 H => ?_)
    refine go_getI (pc := 7) dX4_setAsTold_7 fl_X4_30 H (fun v102 H => ?_)
    refine go_icmp_ge (pc := 10) (tgt := 65) dX4_setAsTold_10 (by decide) H (fun H => ?_) (fun H => ?_)
    · refine go_iconst (pc := 65) (v := 0) dX4_setAsTold_65 (by decide) ?_
      refine go_istore_n (pc := 66) (L' := [some (.ref a0), some (.ref a1), some (.int 0)]) dX4_setAsTold_66 rfl (Nat.le_of_ble_eq_true rfl) rfl ?_
      exact Go.weak (L' := [some (.ref a0), some (.ref a1), some (.int 0)]) ⟨rfl, ⟨rfl, ⟨rfl, trivial⟩⟩⟩ (X4_setAsTold_L67_ok 5000 a0 a1 0 h H)
    · refine go_aload_n (pc := 13) dX4_setAsTold_13 rfl rfl ?_
      refine go_getR (pc := 14) dX4_setAsTold_14 fl_X4_14 H (fun v103 H => ?_)
      refine go_iload_n (pc := 17) dX4_setAsTold_17 rfl rfl ?_
      refine go_iconst (pc := 18) (v := 0) dX4_setAsTold_18 (by decide) ?_
      refine go_aload_n (pc := 19) dX4_setAsTold_19 rfl rfl ?_
      refine go_getR (pc := 20) dX4_setAsTold_20 fl_X4_27 H (fun v104 H => ?_)
      refine go_iload_n (pc := 23) dX4_setAsTold_23 rfl rfl ?_
      refine go_iconst (pc := 24) (v := 0) dX4_setAsTold_24 (by decide) ?_
      refine go_cVi (pc := 25) (Mz := M_X8_cell) (as := [.int a2, .int 0]) (a := v104) (st := [.int 0, .int a2, .ref v103]) dX4_setAsTold_25 wd_731 cv_X8_cell X8_cell_ok rfl rfl ⟨Nat.le_of_ble_eq_true rfl, Nat.le_of_ble_eq_true rfl⟩ (Nat.le_of_ble_eq_true rfl) ⟨rfl, rfl⟩ ⟨Nat.le_of_ble_eq_true rfl, Nat.le_of_ble_eq_true rfl⟩ H (fun v106 h105 H => ?_)
      refine go_cVv (pc := 28) (Mz := M_X8_put) (as := [.int a2, .int 0, .int v106]) (a := v103) (st := []) dX4_setAsTold_28 wd_732 cv_X8_put X8_put_ok rfl rfl ⟨Nat.le_of_ble_eq_true rfl, Nat.le_of_ble_eq_true rfl⟩ (Nat.le_of_ble_eq_true rfl) ⟨rfl, rfl⟩ ⟨Nat.le_of_ble_eq_true rfl, Nat.le_of_ble_eq_true rfl⟩ H (fun h107 H => ?_)
      refine go_aload_n (pc := 31) dX4_setAsTold_31 rfl rfl ?_
      refine go_getR (pc := 32) dX4_setAsTold_32 fl_X4_14 H (fun v108 H => ?_)
      refine go_iload_n (pc := 35) dX4_setAsTold_35 rfl rfl ?_
      refine go_iconst (pc := 36) (v := 1) dX4_setAsTold_36 (by decide) ?_
      refine go_aload_n (pc := 37) dX4_setAsTold_37 rfl rfl ?_
      refine go_getR (pc := 38) dX4_setAsTold_38 fl_X4_27 H (fun v109 H => ?_)
      refine go_iload_n (pc := 41) dX4_setAsTold_41 rfl rfl ?_
      refine go_iconst (pc := 42) (v := 2) dX4_setAsTold_42 (by decide) ?_
      refine go_cVi (pc := 43) (Mz := M_X8_cell) (as := [.int a2, .int 2]) (a := v109) (st := [.int 1, .int a2, .ref v108]) dX4_setAsTold_43 wd_731 cv_X8_cell X8_cell_ok rfl rfl ⟨Nat.le_of_ble_eq_true rfl, Nat.le_of_ble_eq_true rfl⟩ (Nat.le_of_ble_eq_true rfl) ⟨rfl, rfl⟩ ⟨Nat.le_of_ble_eq_true rfl, Nat.le_of_ble_eq_true rfl⟩ H (fun v111 h110 H => ?_)
      refine go_cVv (pc := 46) (Mz := M_X8_put) (as := [.int a2, .int 1, .int v111]) (a := v108) (st := []) dX4_setAsTold_46 wd_732 cv_X8_put X8_put_ok rfl rfl ⟨Nat.le_of_ble_eq_true rfl, Nat.le_of_ble_eq_true rfl⟩ (Nat.le_of_ble_eq_true rfl) ⟨rfl, rfl⟩ ⟨Nat.le_of_ble_eq_true rfl, Nat.le_of_ble_eq_true rfl⟩ H (fun h112 H => ?_)
      refine go_aload_n (pc := 49) dX4_setAsTold_49 rfl rfl ?_
      refine go_getR (pc := 50) dX4_setAsTold_50 fl_X4_14 H (fun v113 H => ?_)
      refine go_iload_n (pc := 53) dX4_setAsTold_53 rfl rfl ?_
      refine go_iconst (pc := 54) (v := 2) dX4_setAsTold_54 (by decide) ?_
      refine go_iconst (pc := 55) (v := 0) dX4_setAsTold_55 (by decide) ?_
      refine go_cVv (pc := 56) (Mz := M_X8_put) (as := [.int a2, .int 2, .int 0]) (a := v113) (st := []) dX4_setAsTold_56 wd_732 cv_X8_put X8_put_ok rfl rfl ⟨Nat.le_of_ble_eq_true rfl, Nat.le_of_ble_eq_true rfl⟩ (Nat.le_of_ble_eq_true rfl) ⟨rfl, rfl⟩ ⟨Nat.le_of_ble_eq_true rfl, Nat.le_of_ble_eq_true rfl⟩ H (fun h114 H => ?_)
      refine go_iinc (pc := 59) (v := a2 + 1) (L' := [some (.ref a0), some (.ref a1), some (.int (a2 + 1))]) dX4_setAsTold_59 rfl rfl (Nat.le_of_ble_eq_true rfl) rfl ?_
      refine go_goto (pc := 62) (tgt := 2) dX4_setAsTold_62 (by decide) ?_
      exact Go.weak (L' := [some (.ref a0), some (.ref a1), some (.int (a2 + 1))]) ⟨rfl, ⟨rfl, ⟨rfl, trivial⟩⟩⟩ (hrc2 a0 a1 (a2 + 1) h114 H)

def X4_setAsTold (a0 : Nat) (a1 : Nat) (h : Hp) : Option (Hp) :=
  X4_setAsTold_L2 5000 a0 a1 0 h
theorem X4_setAsTold_ok {a0 : Nat} {a1 : Nat} {h h' : Hp} (H : X4_setAsTold a0 a1 h = some h') : Con M_X4_setAsTold [.ref a0, .ref a1] h none h' := by
  refine con_of_go (by decide) 1 (L := [some (.ref a0), some (.ref a1), none]) rfl (Nat.le_of_ble_eq_true rfl) ?_
  unfold X4_setAsTold at H
  refine go_iconst (pc := 0) (v := 0) dX4_setAsTold_0 (by decide) ?_
  refine go_istore_n (pc := 1) (L' := [some (.ref a0), some (.ref a1), some (.int 0)]) dX4_setAsTold_1 rfl (Nat.le_of_ble_eq_true rfl) rfl ?_
  exact Go.weak (L' := [some (.ref a0), some (.ref a1), some (.int 0)]) ⟨rfl, ⟨rfl, ⟨rfl, trivial⟩⟩⟩ (X4_setAsTold_L2_ok 5000 a0 a1 0 h H)

def M_X4_copyFrom : MD := (yX4_copyFrom, cX4_copyFrom, 2, none, 1, 22, 0, 0)
theorem cv_X4_copyFrom : CVo M_X4_copyFrom 1 4 := ⟨⟨wd_949, wd_114, ⟨by decide, by decide⟩, by decide +kernel⟩, wd_947, wd_948, _, rfl, rfl⟩
def X4_copyFrom (a0 : Nat) (a1 : Nat) (h : Hp) : Option (Hp) :=
  (gR h a0 4 0).bind fun v1 =>
  (gR h a1 4 0).bind fun v2 =>
  cVv h v1 8 (X8_copyFrom v1 v2 h) fun h3 =>
  (gR h3 a0 4 1).bind fun v4 =>
  (gR h3 a1 4 1).bind fun v5 =>
  cVv h3 v4 8 (X8_copyFrom v4 v5 h3) fun h6 =>
  (gI h6 a1 4 2).bind fun v7 =>
  (pF h6 a0 4 2 (.int v7)).bind fun h8 =>
  some h8
theorem X4_copyFrom_ok {a0 : Nat} {a1 : Nat} {h h' : Hp} (H : X4_copyFrom a0 a1 h = some h') : Con M_X4_copyFrom [.ref a0, .ref a1] h none h' := by
  refine con_of_go (by decide) 0 (L := [some (.ref a0), some (.ref a1)]) rfl (Nat.le_of_ble_eq_true rfl) ?_
  unfold X4_copyFrom at H
  refine go_aload_n (pc := 0) dX4_copyFrom_0 rfl rfl ?_
  refine go_getR (pc := 1) dX4_copyFrom_1 fl_X4_14 H (fun v1 H => ?_)
  refine go_aload_n (pc := 4) dX4_copyFrom_4 rfl rfl ?_
  refine go_getR (pc := 5) dX4_copyFrom_5 fl_X4_14 H (fun v2 H => ?_)
  refine go_cVv (pc := 8) (Mz := M_X8_copyFrom) (as := [.ref v2]) (a := v1) (st := []) dX4_copyFrom_8 wd_950 cv_X8_copyFrom X8_copyFrom_ok rfl rfl ⟨Nat.le_of_ble_eq_true rfl, Nat.le_of_ble_eq_true rfl⟩ (Nat.le_of_ble_eq_true rfl) ⟨rfl, rfl⟩ ⟨Nat.le_of_ble_eq_true rfl, Nat.le_of_ble_eq_true rfl⟩ H (fun h3 H => ?_)
  refine go_aload_n (pc := 11) dX4_copyFrom_11 rfl rfl ?_
  refine go_getR (pc := 12) dX4_copyFrom_12 fl_X4_20 H (fun v4 H => ?_)
  refine go_aload_n (pc := 15) dX4_copyFrom_15 rfl rfl ?_
  refine go_getR (pc := 16) dX4_copyFrom_16 fl_X4_20 H (fun v5 H => ?_)
  refine go_cVv (pc := 19) (Mz := M_X8_copyFrom) (as := [.ref v5]) (a := v4) (st := []) dX4_copyFrom_19 wd_950 cv_X8_copyFrom X8_copyFrom_ok rfl rfl ⟨Nat.le_of_ble_eq_true rfl, Nat.le_of_ble_eq_true rfl⟩ (Nat.le_of_ble_eq_true rfl) ⟨rfl, rfl⟩ ⟨Nat.le_of_ble_eq_true rfl, Nat.le_of_ble_eq_true rfl⟩ H (fun h6 H => ?_)
  refine go_aload_n (pc := 22) dX4_copyFrom_22 rfl rfl ?_
  refine go_aload_n (pc := 23) dX4_copyFrom_23 rfl rfl ?_
  refine go_getI (pc := 24) dX4_copyFrom_24 fl_X4_23 H (fun v7 H => ?_)
  refine go_putI (pc := 27) dX4_copyFrom_27 fs_X4_23 H (fun h8 H => ?_)
  exact go_vret (pc := 30) dX4_copyFrom_30 rfl ⟨Nat.le_of_ble_eq_true rfl, Nat.le_of_ble_eq_true rfl⟩ H

def M_X4_attendAll : MD := (yX4_attendAll, cX4_attendAll, 3, none, 1, 23, 0, 0)
theorem cv_X4_attendAll : CVo M_X4_attendAll 1 4 := ⟨⟨wd_990, wd_114, ⟨by decide, by decide⟩, by decide +kernel⟩, wd_988, wd_989, _, rfl, rfl⟩
def X4_attendAll_B26 (rc2 : Nat → Int32 → Int32 → Hp → Option (Hp)) (a0 : Nat) (a1 : Int32) (a2 : Int32) (h : Hp) : Option (Hp) :=
  rc2 a0 a1 (a2 + 1) h
theorem X4_attendAll_B26_ok {hh h' : Hp}  (rc2 : Nat → Int32 → Int32 → Hp → Option (Hp)) (hrc2 : ∀ (a0 : Nat) (a1 : Int32) (a2 : Int32) (h : Hp), rc2 a0 a1 a2 h = some h' → Go (PM M_X4_attendAll hh none h') M_X4_attendAll 2 [some (.ref a0), some (.int a1), some (.int a2)] [] h 0 0) (a0 : Nat) (a1 : Int32) (a2 : Int32) (h : Hp) (H : X4_attendAll_B26 rc2 a0 a1 a2 h = some h') : Go (PM M_X4_attendAll hh none h') M_X4_attendAll 26 [some (.ref a0), some (.int a1), some (.int a2)] [] h 0 0 := by
  unfold X4_attendAll_B26 at H
  refine go_iinc (pc := 26) (v := a2 + 1) (L' := [some (.ref a0), some (.int a1), some (.int (a2 + 1))]) dX4_attendAll_26 rfl rfl (Nat.le_of_ble_eq_true rfl) rfl ?_
  refine go_goto (pc := 29) (tgt := 2) dX4_attendAll_29 (by decide) ?_
  exact Go.weak (L' := [some (.ref a0), some (.int a1), some (.int (a2 + 1))]) ⟨rfl, ⟨rfl, ⟨rfl, trivial⟩⟩⟩ (hrc2 a0 a1 (a2 + 1) h H)

def X4_attendAll_L2_s (rc2 : Nat → Int32 → Int32 → Hp → Option (Hp)) (a0 : Nat) (a1 : Int32) (a2 : Int32) (h : Hp) : Option (Hp) :=
  if 12 ≤ a2 then (
    some h)
  else (
    if ((a1 >>> (a2 &&& 31)) &&& 1) = 0 then (
      X4_attendAll_B26 rc2 a0 a1 a2 h)
    else (
      (gR h a0 4 0).bind fun v101 =>
      cVv h v101 8 (X8_put v101 a2 2 1 h) fun h102 =>
      X4_attendAll_B26 rc2 a0 a1 a2 h102))
def X4_attendAll_L2 (q : Nat) : Nat → Int32 → Int32 → Hp → Option (Hp) := loopN (fun _ _ _ _ => none) (X4_attendAll_L2_s) q
theorem X4_attendAll_L2_ok {hh h' : Hp}  : ∀ (q : Nat) (a0 : Nat) (a1 : Int32) (a2 : Int32) (h : Hp), X4_attendAll_L2 q a0 a1 a2 h = some h' → Go (PM M_X4_attendAll hh none h') M_X4_attendAll 2 [some (.ref a0), some (.int a1), some (.int a2)] [] h 0 0 := by
  intro q
  induction q with
  | zero => intro a0 a1 a2 h H; cases H
  | succ q hrc2 =>
    intro a0 a1 a2 h H
    replace H : X4_attendAll_L2_s (X4_attendAll_L2 q) a0 a1 a2 h = some h' := H
    unfold X4_attendAll_L2_s at H
    refine go_iload_n (pc := 2) dX4_attendAll_2 rfl rfl ?_
    refine go_bipush (pc := 3) (v := 12) dX4_attendAll_3 (by decide) ?_
    refine go_icmp_ge (pc := 5) (tgt := 32) dX4_attendAll_5 (by decide) H (fun H => ?_) (fun H => ?_)
    · exact go_vret (pc := 32) dX4_attendAll_32 rfl ⟨Nat.le_of_ble_eq_true rfl, Nat.le_of_ble_eq_true rfl⟩ H
    · refine go_iload_n (pc := 8) dX4_attendAll_8 rfl rfl ?_
      refine go_iload_n (pc := 9) dX4_attendAll_9 rfl rfl ?_
      refine go_ishr (pc := 10) dX4_attendAll_10 ?_
      refine go_iconst (pc := 11) (v := 1) dX4_attendAll_11 (by decide) ?_
      refine go_iand (pc := 12) dX4_attendAll_12 ?_
      refine go_if_eq (pc := 13) (tgt := 26) dX4_attendAll_13 (by decide) H (fun H => ?_) (fun H => ?_)
      · exact Go.weak (L' := [some (.ref a0), some (.int a1), some (.int a2)]) ⟨rfl, ⟨rfl, ⟨rfl, trivial⟩⟩⟩ (X4_attendAll_B26_ok _ hrc2 a0 a1 a2 h H)
      · refine go_aload_n (pc := 16) dX4_attendAll_16 rfl rfl ?_
        refine go_getR (pc := 17) dX4_attendAll_17 fl_X4_14 H (fun v101 H => ?_)
        refine go_iload_n (pc := 20) dX4_attendAll_20 rfl rfl ?_
        refine go_iconst (pc := 21) (v := 2) dX4_attendAll_21 (by decide) ?_
        refine go_iconst (pc := 22) (v := 1) dX4_attendAll_22 (by decide) ?_
        refine go_cVv (pc := 23) (Mz := M_X8_put) (as := [.int a2, .int 2, .int 1]) (a := v101) (st := []) dX4_attendAll_23 wd_732 cv_X8_put X8_put_ok rfl rfl ⟨Nat.le_of_ble_eq_true rfl, Nat.le_of_ble_eq_true rfl⟩ (Nat.le_of_ble_eq_true rfl) ⟨rfl, rfl⟩ ⟨Nat.le_of_ble_eq_true rfl, Nat.le_of_ble_eq_true rfl⟩ H (fun h102 H => ?_)
        exact Go.weak (L' := [some (.ref a0), some (.int a1), some (.int a2)]) ⟨rfl, ⟨rfl, ⟨rfl, trivial⟩⟩⟩ (X4_attendAll_B26_ok _ hrc2 a0 a1 a2 h102 H)

def X4_attendAll (a0 : Nat) (a1 : Int32) (h : Hp) : Option (Hp) :=
  X4_attendAll_L2 5000 a0 a1 0 h
theorem X4_attendAll_ok {a0 : Nat} {a1 : Int32} {h h' : Hp} (H : X4_attendAll a0 a1 h = some h') : Con M_X4_attendAll [.ref a0, .int a1] h none h' := by
  refine con_of_go (by decide) 1 (L := [some (.ref a0), some (.int a1), none]) rfl (Nat.le_of_ble_eq_true rfl) ?_
  unfold X4_attendAll at H
  refine go_iconst (pc := 0) (v := 0) dX4_attendAll_0 (by decide) ?_
  refine go_istore_n (pc := 1) (L' := [some (.ref a0), some (.int a1), some (.int 0)]) dX4_attendAll_1 rfl (Nat.le_of_ble_eq_true rfl) rfl ?_
  exact Go.weak (L' := [some (.ref a0), some (.int a1), some (.int 0)]) ⟨rfl, ⟨rfl, ⟨rfl, trivial⟩⟩⟩ (X4_attendAll_L2_ok 5000 a0 a1 0 h H)
