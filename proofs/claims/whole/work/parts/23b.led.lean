/-! led: thrown, and caught by the law: written by wip/whole/gen/led.py -/
theorem wd_108 : ((Jvm.Cond.initialized "GlassWatchLaw")) ∈ TB := tb_in (in_t1 (List.mem_of_getElem? (i := 0) (by decide +kernel))) (by decide +kernel)
theorem wd_130 : ((Jvm.Cond.initialized "java/util/NoSuchElementException")) ∈ TB := tb_in (in_t1 (List.mem_of_getElem? (i := 22) (by decide +kernel))) (by decide +kernel)
theorem wd_1252 : ((Jvm.Cond.static ({ cls := "GlassWatchLaw", name := "led", desc := "(LGlassWatch;I[J)I" } : Jvm.MethodName))) ∈ TB := tb_in (in_t5 (List.mem_of_getElem? (i := 184) (by decide +kernel))) (by decide +kernel)
theorem wd_1253 : ((Jvm.Cond.codeWith ({ cls := "GlassWatchLaw", name := "led", desc := "(LGlassWatch;I[J)I" } : Jvm.MethodName) method_3_code (4 : Nat) (Option.some Jvm.ClassFile.FieldType.int) [((0 : Nat), (9 : Nat), (12 : Nat), (13 : Nat))])) ∈ TB := tb_in (in_t5 (List.mem_of_getElem? (i := 185) (by decide +kernel))) (by decide +kernel)
theorem wd_1254 : ((Jvm.Cond.classLink "GlassWatchLaw" (13 : Nat) "java/util/NoSuchElementException")) ∈ TB := tb_in (in_t5 (List.mem_of_getElem? (i := 186) (by decide +kernel))) (by decide +kernel)
theorem wd_1255 : ((Jvm.Cond.methodLink "GlassWatchLaw" (7 : Nat) ({ cls := "GlassWatch", name := "led", desc := "(I)I" } : Jvm.MethodName))) ∈ TB := tb_in (in_t5 (List.mem_of_getElem? (i := 187) (by decide +kernel))) (by decide +kernel)
theorem wd_1256 : ((Jvm.Cond.instanceMethod ({ cls := "GlassWatch", name := "led", desc := "(I)I" } : Jvm.MethodName))) ∈ TB := tb_in (in_t5 (List.mem_of_getElem? (i := 188) (by decide +kernel))) (by decide +kernel)
theorem wd_1257 : ((Jvm.Cond.selects "GlassWatch" ({ cls := "GlassWatch", name := "led", desc := "(I)I" } : Jvm.MethodName) ({ cls := "GlassWatch", name := "led", desc := "(I)I" } : Jvm.MethodName))) ∈ TB := tb_in (in_t5 (List.mem_of_getElem? (i := 189) (by decide +kernel))) (by decide +kernel)
theorem wd_1259 : ((Jvm.Cond.classLink "GlassWatch" (342 : Nat) "java/util/NoSuchElementException")) ∈ TB := tb_in (in_t5 (List.mem_of_getElem? (i := 191) (by decide +kernel))) (by decide +kernel)

theorem dX10_led_0 : decode cX10_led 0 = .ok (.iload_n 1, 1) := by decide +kernel
theorem dX10_led_1 : decode cX10_led 1 = .ok (.istore_n 2, 1) := by decide +kernel
theorem dX10_led_2 : decode cX10_led 2 = .ok (.iconst 0, 1) := by decide +kernel
theorem dX10_led_3 : decode cX10_led 3 = .ok (.istore_n 3, 1) := by decide +kernel
theorem dX10_led_4 : decode cX10_led 4 = .ok (.aload_n 0, 1) := by decide +kernel
theorem dX10_led_5 : decode cX10_led 5 = .ok (.getfield 144, 3) := by decide +kernel
theorem dX10_led_8 : decode cX10_led 8 = .ok (.ifCond .eq 51, 3) := by decide +kernel
theorem dX10_led_11 : decode cX10_led 11 = .ok (.iload_n 2, 1) := by decide +kernel
theorem dX10_led_12 : decode cX10_led 12 = .ok (.ifCond .lt 47, 3) := by decide +kernel
theorem dX10_led_15 : decode cX10_led 15 = .ok (.iload_n 3, 1) := by decide +kernel
theorem dX10_led_16 : decode cX10_led 16 = .ok (.aload_n 0, 1) := by decide +kernel
theorem dX10_led_17 : decode cX10_led 17 = .ok (.getfield 16, 3) := by decide +kernel
theorem dX10_led_20 : decode cX10_led 20 = .ok (.getfield 104, 3) := by decide +kernel
theorem dX10_led_23 : decode cX10_led 23 = .ok (.getfield 108, 3) := by decide +kernel
theorem dX10_led_26 : decode cX10_led 26 = .ok (.if_icmp .ge 33, 3) := by decide +kernel
theorem dX10_led_29 : decode cX10_led 29 = .ok (.aload_n 0, 1) := by decide +kernel
theorem dX10_led_30 : decode cX10_led 30 = .ok (.getfield 55, 3) := by decide +kernel
theorem dX10_led_33 : decode cX10_led 33 = .ok (.aload_n 0, 1) := by decide +kernel
theorem dX10_led_34 : decode cX10_led 34 = .ok (.getfield 35, 3) := by decide +kernel
theorem dX10_led_37 : decode cX10_led 37 = .ok (.iload_n 3, 1) := by decide +kernel
theorem dX10_led_38 : decode cX10_led 38 = .ok (.invokevirtual 159, 3) := by decide +kernel
theorem dX10_led_41 : decode cX10_led 41 = .ok (.ifCond .ne 12, 3) := by decide +kernel
theorem dX10_led_44 : decode cX10_led 44 = .ok (.iload_n 2, 1) := by decide +kernel
theorem dX10_led_45 : decode cX10_led 45 = .ok (.ifCond .ne 5, 3) := by decide +kernel
theorem dX10_led_48 : decode cX10_led 48 = .ok (.iload_n 3, 1) := by decide +kernel
theorem dX10_led_49 : decode cX10_led 49 = .ok (.ireturn, 1) := by decide +kernel
theorem dX10_led_50 : decode cX10_led 50 = .ok (.iinc 2 (-1), 3) := by decide +kernel
theorem dX10_led_53 : decode cX10_led 53 = .ok (.iinc 3 1, 3) := by decide +kernel
theorem dX10_led_56 : decode cX10_led 56 = .ok (.goto (-52), 3) := by decide +kernel
theorem dX10_led_59 : decode cX10_led 59 = .ok (.new 342, 3) := by decide +kernel
theorem dX10_led_62 : decode cX10_led 62 = .ok (.dup, 1) := by decide +kernel
theorem dX10_led_63 : decode cX10_led 63 = .ok (.invokespecial 344, 3) := by decide +kernel
theorem dX10_led_66 : decode cX10_led 66 = .ok (.athrow, 1) := by decide +kernel
theorem dL_led_0 : decode cL_led 0 = .ok (.aload_n 2, 1) := by decide +kernel
theorem dL_led_1 : decode cL_led 1 = .ok (.iconst 0, 1) := by decide +kernel
theorem dL_led_2 : decode cL_led 2 = .ok (.aload_n 0, 1) := by decide +kernel
theorem dL_led_3 : decode cL_led 3 = .ok (.iload_n 1, 1) := by decide +kernel
theorem dL_led_4 : decode cL_led 4 = .ok (.invokevirtual 7, 3) := by decide +kernel
theorem dL_led_7 : decode cL_led 7 = .ok (.i2l, 1) := by decide +kernel
theorem dL_led_8 : decode cL_led 8 = .ok (.lastore, 1) := by decide +kernel
theorem dL_led_9 : decode cL_led 9 = .ok (.goto 6, 3) := by decide +kernel
theorem dL_led_12 : decode cL_led 12 = .ok (.astore_n 3, 1) := by decide +kernel
theorem dL_led_13 : decode cL_led 13 = .ok (.iconst 1, 1) := by decide +kernel
theorem dL_led_14 : decode cL_led 14 = .ok (.ireturn, 1) := by decide +kernel
theorem dL_led_15 : decode cL_led 15 = .ok (.iconst 0, 1) := by decide +kernel
theorem dL_led_16 : decode cL_led 16 = .ok (.ireturn, 1) := by decide +kernel

def nsE : String := "java/util/NoSuchElementException"
def QcX (D : va_G) (ks sp ad : Nat → Nat) (sz : Nat) (h : Hp) (r : Option Int32) (h' : Hp) : Array Value → State → Outcome → State → Prop := fun a st oc t => ∃ v, r = some v ∧ Qc D ks sp ad sz h (some (.int v)) h' a st oc t
def XCx (D : va_G) (ks sp ad : Nat → Nat) (sz : Nat) (h : Hp) (r : Option Int32) (h' : Hp) : String → State → State → Prop := fun E st t => (r = none ∧ E = nsE) ∧ (∃ ad' : Nat → Nat, (∀ i, i < h.1 → ad' i = ad i) ∧ h.1 ≤ h'.1 ∧ va_P D vwCl (wsO ks sp ad' h') t.heap ∧ va_D (va_A (wsO ks sp ad h) sz) (wsO ks sp ad' h') ∧ wfh h') ∧ va_F (va_A (wsO ks sp ad h) sz) st t
def PX (M : MD) (h0 : Hp) (r : Option Int32) (h' : Hp) : PT := fun _ l _ s _ args below _ c D ks sp ad0 n0 A Q =>
  n0 = h0.1 ∧ A = va_A (wsO ks sp ad0 h0) s.heap.size ∧ Q = vx_MQ below (QcX D ks sp ad0 s.heap.size h0 r h') (XCx D ks sp ad0 s.heap.size h0 r h') args s (mdC M) (mdS M) A ∧ l.stackTraces = false ∧ ∀ x ∈ c.exceptionTable.toList, False
def ConX (M : MD) (as : List Value) (h : Hp) (r : Option Int32) (h' : Hp) : Prop := ∀ (l : Launch) (D : va_G) (ks sp ad : Nat → Nat) (sz : Nat), l.stackTraces = false → wfh h → wfs h.1 as → vx_Met l (mdY M) (mdW M) (mdRoom M) (va_Pc (as.map (tv sp ad)) (PreU D ks sp ad sz h)) (QcX D ks sp ad sz h r h') (XCx D ks sp ad sz h r h') (mdC M) (mdS M) (va_A (wsO ks sp ad h) sz)
theorem conX_of_go {M : MD} {as : List Value} {h h' : Hp} {r : Option Int32} (hpl : plainName (mdY M).cls = true) (j : Nat) {L : List (Option Value)} (hL : entL as ++ List.replicate j none = L) (hf : (as.map fun v => v.category).sum ≤ mdL M) (g : Go (PX M h r h') M 0 L [] h 0 0) : ConX M as h r h' := by
  subst hL
  intro l D ks sp ad sz hst wh wa
  refine vx_ofW (cc := mdB M) (maxL := mdL M) (ret := mdR M) hpl rfl ?_
  intro p e s m args below meth c s₁ B hml htab hv
  obtain ⟨rfl, hsz, hP, hK, hD0, hX⟩ := hv
  subst hsz
  have hts := atoms_spec (ws := mdW M) B.pre
  have hown : s.vm.findClass (mdY M).cls = some m.cls := findClass_of_methodNamed B.named
  have hin : meth.name = (mdY M).name := (name_of_methodNamed B.named B.method).1
  have hl := lv_entry (as.map (tv sp ad)) (n := mdL M) (by rw [lg_sl_len]; exact hf)
  rw [lg_entry_eq]
  refine g p l e s m _ below meth c D ks sp ad h.1 _ _ ⟨rfl, rfl, rfl, hst, htab⟩ ⟨B.exec, B.bytes, hml, B.returns, hown, fun w hw => hts w (List.mem_cons_of_mem _ hw), hK, fun q hq => Or.inr hq, hX, B.notSynchronized, hin⟩ ad s.heap [] _ ⟨hP, hD0.self, va_S.rf, wh, Nat.le_refl _, fun _ _ => rfl⟩ ?_ (wfL_ent wa) trivial
  rw [prs_ent]
  exact hl
section R
variable {M : MD} {pc : Nat} {L : List (Option Value)} {st : List Value} {h : Hp} {k n : Nat}
theorem go_xret {h0 h' : Hp} {x : Int32} {r : Option Int32} (hd : decode (mdB M) pc = .ok (.ireturn, 1)) (hr : mdR M = some .int) (hk : k ≤ mdC M ∧ n ≤ mdS M) (H : some (some x, h) = some (r, h')) : Go (PX M h0 r h') M pc L [.int x] h k n := by
  cases H
  intro p l e s m args below meth c D ks sp ad0 n0 A Q hP hC ad H1 locs ls hp hl hL hs
  obtain ⟨rfl, hA, rfl, -, -⟩ := hP
  exact W.widen hk.1 hk.2 (vx_ret (W.iret hC.1 hC.2.1 (hC.2.2.2.1.trans hr) (fun t ht hWm => ⟨x, rfl, end_q (p := p) (m := m) (meth := meth) (c := c) (r := some (.int x)) hA hp (fun v e => by cases e; exact hs.1) t ht hWm⟩) hp.2.2.1.2.2 hd hC.2.2.2.2.2.2.2.2.2.1))
def atL : List Cond := vx_at0 "GlassWatch" 344 nsE ["java/lang/RuntimeException", "java/lang/Exception"]
theorem atL_good : ∀ w ∈ atL.filter goodWord, w ∈ lw_tbl := by decide +kernel
theorem atL_bad : ∀ w ∈ atL.filter (fun w => !goodWord w), w ∈ (Cond.castable nsE nsE :: exD.map Cond.declares) := by decide +kernel
theorem atL_ot : ∀ w ∈ Cond.classLink "GlassWatch" 342 nsE :: Cond.initialized nsE :: atL, vx_ot w = true := by decide +kernel
theorem atL_hold {s : State} {args : Array Value} (hts : ∀ w ∈ TB, w.before args s = true) (hN : SN s) : ∀ w ∈ atL, w.before args s = true := by
  refine vx_hat (B := Cond.castable nsE nsE :: exD.map Cond.declares) (fun w hw => hts w (tb_in (atL_good w hw) (List.mem_filter.mp hw).2)) atL_bad ?_
  intro w hw
  rcases List.mem_cons.mp hw with rfl | hw
  · exact va_Nw.use rfl hN.2.2.2
  · obtain ⟨y, hy, rfl⟩ := List.mem_map.mp hw
    exact va_Nw.use rfl (hN.2.2.1 y hy)
theorem go_throw {h0 h' : Hp} {r : Option Int32} {ik ic : Nat} (d0 : decode (mdB M) pc = .ok (.new 342, 3)) (d3 : decode (mdB M) (pc + 3) = .ok (.dup, 1)) (d4 : decode (mdB M) (pc + 4) = .ok (.invokespecial 344, 3)) (d7 : decode (mdB M) (pc + 7) = .ok (.athrow, 1)) (hcl : (mdY M).cls = "GlassWatch") (hF : 6 ≤ mdF M) (hO : (st.map fun v => v.category).sum + 81 ≤ mdO M) (hk : k + 1 ≤ mdC M ∧ n + 6 ≤ mdS M) (H : some (none, h) = some (r, h')) : Go (PX M h0 r h') M pc L st h k n := by
  cases H
  intro p l e s m args below meth c D ks sp ad0 n0 A Q hP hC ad H1 locs ls hp hl hL hs
  obtain ⟨rfl, hA, rfl, hst, htab⟩ := hP
  have hX := hC.2.2.2.2.2.2.2.2.1
  have hown := hC.2.2.2.2.1
  rw [hcl] at hown
  refine vx_throw0 (A := A) (names := ["java/lang/RuntimeException", "java/lang/Exception"]) hC.1 hC.2.1 hst hown (by decide +kernel) (by decide +kernel) (hC.2.2.2.2.2.1 _ wd_1259) (hC.2.2.2.2.2.1 _ wd_130) (atL_hold hC.2.2.2.2.2.1 hX.2.2) atL_ot hX.1.2.2.2.1 hX.1.2.2.2.2 hp.2.2.1 (hl.1.trans hC.2.2.1.symm) d0 d3 d4 d7 (fun x hx => (htab x hx).elim) (by show 2 + 3 < mdF M; omega) (by rw [cat_tv]; show _ + (13 * (2 + 1) + 42) ≤ mdO M; omega) hk.1 hk.2 hC.2.2.2.2.2.2.2.2.2.1 (fun t hal hz hq => ?_) hp.2.2.1.2.2 hk.1 hk.2
  subst hA
  refine ⟨⟨rfl, rfl⟩, ⟨ad, hp.2.2.2.2.2, hp.2.2.2.2.1, hp.1.kept (fun i q hi => hq q.1 ((hp.1 i q hi).lt)), hp.2.1, hp.2.2.2.1⟩, Nat.le_trans hp.2.2.1.1 hz, fun q h1 h2 => ?_⟩
  rw [hq q (Nat.lt_of_lt_of_le h1 hp.2.2.1.1)]
  exact hp.2.2.1.2.1 q h1 h2
end R
def M_X10_led : MD := (yX10_led, cX10_led, 4, (some .int), 6, 89, 1, 6)
theorem cv_X10_led : CVo M_X10_led 1 10 := ⟨⟨wd_1258, wd_109, ⟨by decide, by decide⟩, by decide +kernel⟩, wd_1256, wd_1257, _, rfl, rfl⟩
def X10_led_B59 (h : Hp) : Option (Option Int32 × Hp) :=
  some (none, h)
theorem X10_led_B59_ok {hh h' : Hp} {r : Option Int32}  (h : Hp) (H : X10_led_B59 h = some (r, h')) : Go (PX M_X10_led hh r h') M_X10_led 59 [none, none, none, none] [] h 0 0 := by
  unfold X10_led_B59 at H
  exact go_throw (ik := 342) (ic := 344) (pc := 59) dX10_led_59 dX10_led_62 dX10_led_63 dX10_led_66 rfl (Nat.le_of_ble_eq_true rfl) (Nat.le_of_ble_eq_true rfl) ⟨Nat.le_of_ble_eq_true rfl, Nat.le_of_ble_eq_true rfl⟩ H

def X10_led_B53 (rc4 : Nat → Int32 → Int32 → Hp → Option (Option Int32 × Hp)) (a0 : Nat) (a2 : Int32) (a3 : Int32) (h : Hp) : Option (Option Int32 × Hp) :=
  rc4 a0 a2 (a3 + 1) h
theorem X10_led_B53_ok {hh h' : Hp} {r : Option Int32}  (rc4 : Nat → Int32 → Int32 → Hp → Option (Option Int32 × Hp)) (hrc4 : ∀ (a0 : Nat) (a2 : Int32) (a3 : Int32) (h : Hp), rc4 a0 a2 a3 h = some (r, h') → Go (PX M_X10_led hh r h') M_X10_led 4 [some (.ref a0), none, some (.int a2), some (.int a3)] [] h 0 0) (a0 : Nat) (a2 : Int32) (a3 : Int32) (h : Hp) (H : X10_led_B53 rc4 a0 a2 a3 h = some (r, h')) : Go (PX M_X10_led hh r h') M_X10_led 53 [some (.ref a0), none, some (.int a2), some (.int a3)] [] h 0 0 := by
  unfold X10_led_B53 at H
  refine go_iinc (pc := 53) (v := a3 + 1) (L' := [some (.ref a0), none, some (.int a2), some (.int (a3 + 1))]) dX10_led_53 rfl rfl (Nat.le_of_ble_eq_true rfl) rfl ?_
  refine go_goto (pc := 56) (tgt := 4) dX10_led_56 (by decide) ?_
  exact Go.weak (L' := [some (.ref a0), none, some (.int a2), some (.int (a3 + 1))]) ⟨rfl, ⟨rfl, ⟨rfl, trivial⟩⟩⟩ (hrc4 a0 a2 (a3 + 1) h H)

def X10_led_L4_s (rc4 : Nat → Int32 → Int32 → Hp → Option (Option Int32 × Hp)) (a0 : Nat) (a2 : Int32) (a3 : Int32) (h : Hp) : Option (Option Int32 × Hp) :=
  (gI h a0 10 11).bind fun v101 =>
  if v101 = 0 then (
    X10_led_B59 h)
  else (
    if a2 < 0 then (
      X10_led_B59 h)
    else (
      (gR h a0 10 9).bind fun v102 =>
      (gR h v102 9 2).bind fun v103 =>
      (gI h v103 8 3).bind fun v104 =>
      if v104 ≤ a3 then (
        X10_led_B59 h)
      else (
        (gR h a0 10 5).bind fun v105 =>
        (gR h a0 10 2).bind fun v106 =>
        cV h v105 6 (X6_stolenIn v105 v106 a3 h) fun v108 h107 =>
        if v108 = 0 then (
          if a2 = 0 then (
            some (some a3, h107))
          else (
            X10_led_B53 rc4 a0 (a2 + (-1)) a3 h107))
        else (
          X10_led_B53 rc4 a0 a2 a3 h107))))
def X10_led_L4 (q : Nat) : Nat → Int32 → Int32 → Hp → Option (Option Int32 × Hp) := loopN (fun _ _ _ _ => none) (X10_led_L4_s) q
theorem X10_led_L4_ok {hh h' : Hp} {r : Option Int32}  : ∀ (q : Nat) (a0 : Nat) (a2 : Int32) (a3 : Int32) (h : Hp), X10_led_L4 q a0 a2 a3 h = some (r, h') → Go (PX M_X10_led hh r h') M_X10_led 4 [some (.ref a0), none, some (.int a2), some (.int a3)] [] h 0 0 := by
  intro q
  induction q with
  | zero => intro a0 a2 a3 h H; cases H
  | succ q hrc4 =>
    intro a0 a2 a3 h H
    replace H : X10_led_L4_s (X10_led_L4 q) a0 a2 a3 h = some (r, h') := H
    unfold X10_led_L4_s at H
    refine go_aload_n (pc := 4) dX10_led_4 rfl rfl ?_
    refine go_getI (pc := 5) dX10_led_5 fl_X10_144 H (fun v101 H => ?_)
    refine go_if_eq (pc := 8) (tgt := 59) dX10_led_8 (by decide) H (fun H => ?_) (fun H => ?_)
    · exact Go.weak (L' := [none, none, none, none]) trivial (X10_led_B59_ok h H)
    · refine go_iload_n (pc := 11) dX10_led_11 rfl rfl ?_
      refine go_if_lt (pc := 12) (tgt := 59) dX10_led_12 (by decide) H (fun H => ?_) (fun H => ?_)
      · exact Go.weak (L' := [none, none, none, none]) trivial (X10_led_B59_ok h H)
      · refine go_iload_n (pc := 15) dX10_led_15 rfl rfl ?_
        refine go_aload_n (pc := 16) dX10_led_16 rfl rfl ?_
        refine go_getR (pc := 17) dX10_led_17 fl_X10_16 H (fun v102 H => ?_)
        refine go_getR (pc := 20) dX10_led_20 fl_X10_104 H (fun v103 H => ?_)
        refine go_getI (pc := 23) dX10_led_23 fl_X10_108 H (fun v104 H => ?_)
        refine go_icmp_ge (pc := 26) (tgt := 59) dX10_led_26 (by decide) H (fun H => ?_) (fun H => ?_)
        · exact Go.weak (L' := [none, none, none, none]) trivial (X10_led_B59_ok h H)
        · refine go_aload_n (pc := 29) dX10_led_29 rfl rfl ?_
          refine go_getR (pc := 30) dX10_led_30 fl_X10_55 H (fun v105 H => ?_)
          refine go_aload_n (pc := 33) dX10_led_33 rfl rfl ?_
          refine go_getR (pc := 34) dX10_led_34 fl_X10_35 H (fun v106 H => ?_)
          refine go_iload_n (pc := 37) dX10_led_37 rfl rfl ?_
          refine go_cVi (pc := 38) (Mz := M_X6_stolenIn) (as := [.ref v106, .int a3]) (a := v105) (st := []) dX10_led_38 wd_809 cv_X6_stolenIn X6_stolenIn_ok rfl rfl ⟨Nat.le_of_ble_eq_true rfl, Nat.le_of_ble_eq_true rfl⟩ (Nat.le_of_ble_eq_true rfl) ⟨rfl, rfl⟩ ⟨Nat.le_of_ble_eq_true rfl, Nat.le_of_ble_eq_true rfl⟩ H (fun v108 h107 H => ?_)
          refine go_if_ne (pc := 41) (tgt := 53) dX10_led_41 (by decide) H (fun H => ?_) (fun H => ?_)
          · exact Go.weak (L' := [some (.ref a0), none, some (.int a2), some (.int a3)]) ⟨rfl, ⟨rfl, ⟨rfl, trivial⟩⟩⟩ (X10_led_B53_ok _ hrc4 a0 a2 a3 h107 H)
          · refine go_iload_n (pc := 44) dX10_led_44 rfl rfl ?_
            refine go_if_ne (pc := 45) (tgt := 50) dX10_led_45 (by decide) H (fun H => ?_) (fun H => ?_)
            · refine go_iinc (pc := 50) (v := a2 + (-1)) (L' := [some (.ref a0), none, some (.int (a2 + (-1))), some (.int a3)]) dX10_led_50 rfl rfl (Nat.le_of_ble_eq_true rfl) rfl ?_
              exact Go.weak (L' := [some (.ref a0), none, some (.int (a2 + (-1))), some (.int a3)]) ⟨rfl, ⟨rfl, ⟨rfl, trivial⟩⟩⟩ (X10_led_B53_ok _ hrc4 a0 (a2 + (-1)) a3 h107 H)
            · refine go_iload_n (pc := 48) dX10_led_48 rfl rfl ?_
              exact go_xret (pc := 49) dX10_led_49 rfl ⟨Nat.le_of_ble_eq_true rfl, Nat.le_of_ble_eq_true rfl⟩ H

def X10_led (a0 : Nat) (a1 : Int32) (h : Hp) : Option (Option Int32 × Hp) :=
  X10_led_L4 5000 a0 a1 0 h
theorem X10_led_ok {a0 : Nat} {a1 : Int32} {h h' : Hp} {r : Option Int32} (H : X10_led a0 a1 h = some (r, h')) : ConX M_X10_led [.ref a0, .int a1] h r h' := by
  refine conX_of_go (by decide) 2 (L := [some (.ref a0), some (.int a1), none, none]) rfl (Nat.le_of_ble_eq_true rfl) ?_
  unfold X10_led at H
  refine go_iload_n (pc := 0) dX10_led_0 rfl rfl ?_
  refine go_istore_n (pc := 1) (L' := [some (.ref a0), some (.int a1), some (.int a1), none]) dX10_led_1 rfl (Nat.le_of_ble_eq_true rfl) rfl ?_
  refine go_iconst (pc := 2) (v := 0) dX10_led_2 (by decide) ?_
  refine go_istore_n (pc := 3) (L' := [some (.ref a0), some (.int a1), some (.int a1), some (.int 0)]) dX10_led_3 rfl (Nat.le_of_ble_eq_true rfl) rfl ?_
  exact Go.weak (L' := [some (.ref a0), none, some (.int a1), some (.int 0)]) ⟨rfl, ⟨rfl, ⟨rfl, trivial⟩⟩⟩ (X10_led_L4_ok 5000 a0 a1 0 h H)

def M_L_led : MD := (yL_led, cL_led, 4, (some .int), 7, 112, 1, 6)
def L_led (a0 : Nat) (a1 : Int32) (a2 : Nat) (h : Hp) : Option (Int32 × Hp) := if isC h a0 10 = true then bd (X10_led a0 a1 h) fun r h1 => match r with
  | some v => (sJ h1 a2 0 (Int32.toInt64 v)).bind fun h2 => some (0, h2)
  | none => some (1, h1)
  else none
def ledH : List (Nat × Nat × Nat × Nat) := [(0, 9, 12, 13)]
def ledW : List Cond := .codeWith yL_led cL_led 4 (some .int) ledH :: TB
def PD (h0 : Hp) (r : Int32) (h' : Hp) : PT := fun p l e s m args below meth c D ks sp ad0 n0 A Q => PM M_L_led h0 (some (.int r)) h' p l e s m args below meth c D ks sp ad0 n0 A Q ∧ l.stackTraces = false ∧ c.exceptionTable.toList = tableOf ledH
theorem go_retD {pc : Nat} {L : List (Option Value)} {h h0 h' : Hp} {k n : Nat} {x y : Int32} (hd : decode (mdB M_L_led) pc = .ok (.ireturn, 1)) (hk : k ≤ 1 ∧ n ≤ 6) (H : some (x, h) = some (y, h')) : Go (PD h0 y h') M_L_led pc L [.int x] h k n := by
  intro p l e s m args below meth c D ks sp ad0 n0 A Q hP
  exact go_iret hd rfl hk H p l e s m args below meth c D ks sp ad0 n0 A Q hP.1
theorem go_ledcall {L : List (Option Value)} {h h0 h' : Hp} {a0 a2 : Nat} {a1 y : Int32} (H : L_led a0 a1 a2 h = some (y, h')) : Go (PD h0 y h') M_L_led 4 L [.int a1, .ref a0, .int 0, .ref a2] h 0 0 := by
  intro p l e s m args below meth c D ks sp ad0 n0 A Q hP hC ad H1 locs ls hp hl hL hs
  obtain ⟨hP0, hst, htab⟩ := id hP
  unfold L_led at H
  split at H
  case isFalse => cases H
  rename_i hisC
  obtain ⟨fs, efs⟩ := isC_some hisC
  obtain ⟨r, h1, e1, e2⟩ := bd_some H
  have hA := hC.2.2.2.2.2.2.2.1
  have hfree := pi_free hp hA
  have hS := hp.2.2.1
  have ha : a0 < h.1 := hs.2.1
  have hts := hC.2.2.2.2.2.1
  obtain ⟨q, q1, q2⟩ := cv_X10_led.2.2.2
  have hrecv := va_recv hC.2.2.2.2.2.2.1 hp.1 q1 (show (wsO ks sp ad h)[a0]? = some (ad a0, .inr (10, fs.map (tv sp ad))) by rw [wsO_get ha, efs]; rfl)
  rw [q2] at hrecv
  have hrun := vx_runV (R := mdRoom M_L_led) (p := p) (e := e) (below := below) (meth := meth) (locs := locs) (cells := 0) (slots := 0) (g := F0 m 4 ls ([.int a1, .ref a0, .int 0, .ref a2].map (tv sp ad))) (As := [.int a1]) (rest := [.int 0, .ref (ad a2)]) (b := ad a0) (H := H1) ⟨hC.1, hC.2.1, hC.2.2.1, hC.2.2.2.2.1, hts⟩ (X10_led_ok e1 l D ks sp ad H1.size hst hp.2.2.2.1 ⟨ha, trivial, trivial⟩) ⟨cb_call (M := M_L_led) cv_X10_led.1 ⟨Nat.le_of_ble_eq_true rfl, Nat.le_of_ble_eq_true rfl⟩ wd_1255 hts, hts _ cv_X10_led.2.1, hts _ cv_X10_led.2.2.1⟩ ⟨pre_blind _ _ _ _ _ _ _, hrecv, fun U hU hWm => ⟨rfl, pre_pass hC hp hU hWm⟩⟩ rfl rfl hl.1 rfl (lv_room (Nat.le_of_ble_eq_true rfl)) dL_led_4 ⟨Nat.le_of_ble_eq_true rfl, Nat.le_of_ble_eq_true rfl⟩
  intro T hT X
  rcases hrun T hT X with ⟨v, st₀, t, T', Lc, g0, X', hLc, g1, g2, ⟨x, rfl, ⟨ad', hae, hle, hv, hP1, hD1, hw1, hr1⟩, hz, hk⟩, go⟩ | ⟨q9, st₀, t, T', Lc, E, ce, g0, X', hLc, g1, g2, ⟨⟨rfl, rfl⟩, ⟨ad', hae, hle, hP1, hD1, hw1⟩, hF⟩, hce, hcv, hcl, go⟩
  · cases hv
    rw [g0] at hz hk
    have hS' : va_S A s.heap T'.heap (locs ++ Lc) := ⟨Nat.le_trans hS.1 (by rw [g1]; exact hz), fun q h1 h2 => by rw [g1, hk q (Nat.lt_of_lt_of_le h1 hS.1) (fun z => h2 (hfree q z))]; exact hS.2.1 q h1 h2, fun q hq => by
        rcases List.mem_append.mp hq with h1 | h1
        · exact hS.2.2 q h1
        · exact hfree _ (hLc q h1)⟩
    have K : Go (PD h0 y h') M_L_led 7 L [.int x, .int 0, .ref a2] h1 1 6 := by
      refine go_i2l (pc := 7) dL_led_7 ?_
      refine go_lastore (pc := 8) dL_led_8 e2 (fun h2 H => ?_)
      refine go_goto (pc := 9) (tgt := 15) dL_led_9 (by decide) ?_
      refine go_iconst (pc := 15) (v := 0) dL_led_15 (by decide) ?_
      exact go_retD (pc := 16) dL_led_16 ⟨Nat.le_refl _, Nat.le_refl _⟩ H
    have kk := K p l e s m args below meth c D ks sp ad0 n0 A Q hP hC ad' T'.heap (locs ++ Lc) ls ⟨by rw [g1]; exact hP1, hD1.weaken (fun _ q _ z => hfree q.1 z), hS', hw1, Nat.le_trans hp.2.2.2.2.1 hle, fun i hi => (hae i (Nat.lt_of_lt_of_le hi hp.2.2.2.2.1)).trans (hp.2.2.2.2.2 i hi)⟩ (by rw [prs_ad hae 0 hL]; exact hl) (wfL_up hle hL) ⟨trivial, trivial, Nat.lt_of_lt_of_le hs.2.2.2.1 hle, trivial⟩
    have e3 : ([.int x, .int 0, .ref a2] : List Value).map (tv sp ad') = .int x :: [.int 0, .ref (ad a2)] := by simp only [List.map_cons, List.map_nil, tv, hae a2 hs.2.2.2.1]
    rw [e3] at kk
    obtain ⟨t2, a1, b1⟩ := kk T' rfl X'
    exact ⟨t2, go t2 a1, b1⟩
  · obtain ⟨k1, k2, k3⟩ := vx_keep (A0 := A) (free := va_A (wsO ks sp ad h) H1.size) g0 g1 hS (fun q _ z => hfree q z) (fun q z => hfree q z) hLc hF
    cases e2
    obtain ⟨rfl, hA0, rfl⟩ := hP0
    have hx : vx_W p l e (mdRoom M_L_led) s m args below meth c T'.heap (locs ++ Lc) (0 + 1) (0 + 6) (MQ below (Qc D ks sp ad0 s.heap.size h0 (some (.int 1)) h') args s (mdC M_L_led) (mdS M_L_led) A) (F0 m 4 ls [.int 0, .ref (ad a2)]) q9 := by
      refine vx_catch (own := RL) (name := nsE) (E := nsE) (ce := ce) hC.2.2.2.2.1 [] ⟨0, 9, 12, 13⟩ [] htab (fun z hz => by cases hz) (by decide) (by decide) (hts _ wd_1254) (va_Nw.use rfl hC.2.2.2.2.2.2.2.2.1.2.2.2.2.2) (by rw [g1]; exact hce) hcv hcl ?_
      refine lv_astore_n (i := 3) hC.1 hC.2.1 dL_led_12 rfl hl (Nat.le_of_ble_eq_true rfl) rfl (fun ls' hl' => ?_)
      refine lv_iconst (v := 1) hC.1 hC.2.1 dL_led_13 (by decide) ?_
      refine W.iret hC.1 hC.2.1 hC.2.2.2.1 (fun t2 ht2 hWm => ?_) k3.2.2 dL_led_14 hC.2.2.2.2.2.2.2.2.2.1
      subst hA0
      exact ⟨⟨ad', fun i hi => (hae i (Nat.lt_of_lt_of_le hi hp.2.2.2.2.1)).trans (hp.2.2.2.2.2 i hi), Nat.le_trans hp.2.2.2.2.1 hle, rfl, by rw [ht2, g1]; exact hP1, hD1.weaken (fun _ q _ z => hfree q.1 z), hw1, fun v e => by cases e; trivial⟩, k3.F ht2⟩
    obtain ⟨t2, a1, b1⟩ := hx T' rfl X'
    exact ⟨t2, go.trans a1, b1⟩
theorem con_led {a0 a2 : Nat} {a1 y : Int32} {h h' : Hp} (H : L_led a0 a1 a2 h = some (y, h')) (l : Launch) (D : va_G) (ks sp ad : Nat → Nat) (sz : Nat) (hst : l.stackTraces = false) (wh : wfh h) (wa : wfs h.1 [.ref a0, .int a1, .ref a2]) : Met l yL_led ledW (mdRoom M_L_led) (va_Pc ([.ref a0, .int a1, .ref a2].map (tv sp ad)) (PreU D ks sp ad sz h)) (Qc D ks sp ad sz h (some (.int y)) h') 1 6 (va_A (wsO ks sp ad h) sz) := by
  have g : Go (PD h y h') M_L_led 0 [some (.ref a0), some (.int a1), some (.ref a2), none] [] h 0 0 := by
    refine go_aload_n (pc := 0) dL_led_0 rfl rfl ?_
    refine go_iconst (pc := 1) (v := 0) dL_led_1 (by decide) ?_
    refine go_aload_n (pc := 2) dL_led_2 rfl rfl ?_
    refine go_iload_n (pc := 3) dL_led_3 rfl rfl ?_
    exact go_ledcall H
  refine va_MetW (hh := ledH) (by decide) rfl ?_
  intro p e s m args below meth c s₁ B hml hv
  obtain ⟨rfl, hsz, hP, hK, hD0, hX⟩ := hv
  subst hsz
  have hts := atoms_spec (ws := ledW) B.pre
  have hown : s.vm.findClass RL = some m.cls := findClass_of_methodNamed B.named
  have hin : meth.name = "led" := (name_of_methodNamed B.named B.method).1
  have hl := lv_entry ([.ref a0, .int a1, .ref a2].map (tv sp ad)) (n := 4) (Nat.le_of_ble_eq_true rfl)
  rw [lg_entry_eq]
  exact g p l e s m _ below meth c D ks sp ad h.1 _ _ ⟨⟨rfl, rfl, rfl⟩, hst, vx_table (x := yL_led) B (hts _ List.mem_cons_self)⟩ ⟨B.exec, B.bytes, hml, B.returns, hown, fun w hw => hts w (List.mem_cons_of_mem _ hw), hK, fun q hq => Or.inr hq, hX, B.notSynchronized, hin⟩ ad s.heap [] _ ⟨hP, hD0.self, va_S.rf, wh, Nat.le_refl _, fun _ _ => rfl⟩ hl ⟨wa.1, trivial, wa.2.2.1, trivial⟩ trivial
theorem ledW_words {s : State} {args : Array Value} (hts : ∀ w ∈ TB, w.before args s = true) : ∀ w ∈ ledW, ∀ (a' : Array Value) (U : State), s.WarmedH U.vm → w.before a' U = true := by
  intro w hw a' U hW
  have h1 : w ∈ TB := by
    rcases List.mem_cons.mp hw with rfl | h1
    · exact wd_1253
    · exact h1
  exact word_at hW (good_of_word (tb_good h1)) (hts w h1)
