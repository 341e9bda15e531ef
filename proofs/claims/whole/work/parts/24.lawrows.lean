/-! THE CLAIM OUT OF ONE WALK OF THE LAW'S BODY. Your part is whole_start (and what it stands on); all else here is the same for every law, but numbers. -/
def R_law : String := "GlassWatchLaw"
def lw_P (b : Addr) (xs : List Int32) (args : Array Value) (s : State) : Prop := args = #[.ref b] ∧ s.IntsAt b xs ∧ xs.length ≤ 384 ∧ (Jvm.Cond.and given_1 narrow_1).before args s = true
def lw_Q (_ : Array Value) (s : State) (o : Outcome) (t : State) : Prop := o = .returned (some (.int 1)) ∧ Framed s o t [] 600128 7301098
def lw_Z (below : List Frame) (a : Array Value) (s : State) : State → Prop := fun t => ∃ o, t.status = .running ∧ Ended t below o ∧ lw_Q a s o t
/-- the law's own end, with 1 on the stack, nothing written that was there before, its room as the claim has it -/
theorem lw_ret {p : Program} {l : Launch} {e : Env} {s : State} {m : MethodId} {below : List Frame} {meth : Method} {c : Code} {b : Nat} (hx : p.tables.exec = Jvm.exec) (hb : c.code = code) (hr : meth.sig.returnType = ret) (hlocks : meth.locks = false) {pc : Nat} {H : Heap} {ls : Array Slot} (hdg : decode code pc = .ok (.ireturn, 1)) : W p l e room_1 s m #[Value.ref b] below meth c H [] 600128 7301098 (lw_Z below #[Value.ref b] s) (F0 m pc ls [.int 1]) := by
  intro T hT X
  obtain ⟨fs, hret, hrun, hended, hW, hframe⟩ := X.leave (v := some (.int 1)) (hlocks := hlocks) (fun h => by rw [hr] at h; cases h)
  have hmeth' : T.vm.method? m = some meth := X.method'
  refine ⟨T.setFrames fs, ?_, .returned (some (.int 1)), hrun, hended, rfl, ⟨_, rfl⟩, hW, hframe⟩
  jvm_step X.here [X.here.top, hx, hb, hdg, hmeth', hr, ret, narrow_b1]
  (try refine ⟨rfl, ?_⟩); (try refine ⟨rfl, ?_⟩)
  first | (intro acts; rw [hret _ acts rfl rfl rfl]) | rw [hret _ _ rfl rfl rfl]
  exact Steps.refl _
/-- what holds at the law's entry: the machine, the code, the tables' words (any of lw_tbl by 'hts w (by decide +kernel)'), the script of L ints xs at the cell b, what the Statement gives of the start (any of its parts by flat_of_before) -/
def lw_At (p : Program) (s : State) (m : MethodId) (meth : Method) (c : Code) (b L : Nat) (xs : Nat → Int32) : Prop :=
  p.tables.exec = Jvm.exec ∧ c.code = code ∧ meth.sig.returnType = ret ∧ c.maxLocals = 7 ∧ s.vm.findClass R_law = some m.cls ∧ (∀ w ∈ lw_tbl, w.before #[Value.ref b] s = true) ∧ va_X b L xs s s.heap ∧ b < s.heap.size ∧ meth.locks = false ∧ (Jvm.Cond.and given_1 narrow_1).before #[Value.ref b] s = true
/-! the law over the small machine: the script is .retAddr 1000 -/
def M_L_law : MD := (yL_law, cL_law, 7, (some .boolean), 14, 524, 600128, 7301098)
def PL (N : Nat) (xs : Nat → Int32) : PT := fun _ l _ s _ args below _ _ _ _ sp _ n0 A Q =>
  n0 = 0 ∧ A = (fun q => s.heap.size ≤ q) ∧ va_X (sp 1000) N xs s s.heap ∧ sp 1000 < s.heap.size ∧ args = #[.ref (sp 1000)] ∧ Q = lw_Z below args s ∧ l.stackTraces = false
def xA (N : Nat) (xs : Nat → Int32) (i : Int32) : Option Int32 := if i < 0 ∨ N ≤ i.toNatClampNeg then none else some (xs i.toNatClampNeg)
def lwR (x : Int32) : Option Unit := if x = 1 then some () else none
section R
variable {pc : Nat} {L : List (Option Value)} {st : List Value} {h : Hp} {k n : Nat} {N : Nat} {xs : Nat → Int32}
theorem go_xlen (hd : decode (mdB M_L_law) pc = .ok (.arraylength, 1)) (K : Go (PL N xs) M_L_law (pc + 1) L (.int (nI N) :: st) h k n) : Go (PL N xs) M_L_law pc L (.retAddr 1000 :: st) h k n := by
  intro p l e s m args below meth c D ks sp ad0 n0 A Q hP hC ad H locs ls hp hl hL hs
  obtain ⟨h1, h2, h3, h4, h5, h6, h7⟩ := id hP
  have hA : ¬ A (sp 1000) := by rw [h2]; exact Nat.not_le.mpr h4
  exact va_slen hC.1 hC.2.1 h3 h4 hA hp.2.2.1 hd (K p l e s m args below meth c D ks sp ad0 n0 A Q hP hC ad H locs ls hp hl hL ⟨trivial, hs.2⟩)
theorem go_xld {i : Int32} {β : Type} {K' : Int32 → Option β} {o : β} (hd : decode (mdB M_L_law) pc = .ok (.iaload, 1)) (H : (xA N xs i).bind K' = some o) (K : ∀ x, K' x = some o → Go (PL N xs) M_L_law (pc + 1) L (.int x :: st) h k n) : Go (PL N xs) M_L_law pc L (.int i :: .retAddr 1000 :: st) h k n := by
  intro p l e s m args below meth c D ks sp ad0 n0 A Q hP hC ad H1 locs ls hp hl hL hs
  obtain ⟨h1, h2, h3, h4, h5, h6, h7⟩ := id hP
  have hA : ¬ A (sp 1000) := by rw [h2]; exact Nat.not_le.mpr h4
  obtain ⟨x, e1, e2⟩ := bi_some H
  unfold xA at e1
  split at e1
  · cases e1
  · rename_i hx
    cases e1
    exact va_sld hC.1 hC.2.1 h3 h4 hA hp.2.2.1 hx hd (K _ e2 p l e s m args below meth c D ks sp ad0 n0 A Q hP hC ad H1 locs ls hp hl hL ⟨trivial, hs.2.2⟩)
theorem go_lawret {x : Int32} (hd : decode (mdB M_L_law) pc = .ok (.ireturn, 1)) (hk : k ≤ 600128 ∧ n ≤ 7301098) (H : lwR x = some ()) : Go (PL N xs) M_L_law pc L [.int x] h k n := by
  intro p l e s m args below meth c D ks sp ad0 n0 A Q hP hC ad H1 locs ls hp hl hL hs
  obtain ⟨h1, h2, h3, h4, h5, h6, h7⟩ := id hP
  unfold lwR at H
  split at H
  · rename_i hx
    subst hx
    subst h5
    subst h6
    refine va_forget (fun q hq => ?_) (W.widen hk.1 hk.2 (lw_ret hC.1 hC.2.1 hC.2.2.2.1 hC.2.2.2.2.2.2.2.2.2.1 hd))
    have := hp.2.2.1.2.2 q hq
    rw [h2] at this
    exact this
  · cases H
end R
theorem go_led {N : Nat} {xs : Nat → Int32} {pc : Nat} {L : List (Option Value)} {st : List Value} {h : Hp} {k n : Nat} {a1 a3 idx : Nat} {v : Int32} {β : Type} {K' : Int32 → Hp → Option β} {o : β} (hd : decode (mdB M_L_law) pc = .ok (.invokestatic idx, 3)) (hl0 : Cond.methodLink (mdY M_L_law).cls idx yL_led ∈ TB) (hR : RM M_L_law M_L_led) (hW : (st.map fun v => v.category).sum ≤ 8) (hk : k + 1 ≤ 600128 ∧ n + 6 ≤ 7301098) (H : bd (L_led a1 v a3 h) K' = some o) (K : ∀ x h', K' x h' = some o → Go (PL N xs) M_L_law (pc + 3) L (.int x :: st) h' (k + 1) (n + 6)) : Go (PL N xs) M_L_law pc L (.ref a3 :: .int v :: .ref a1 :: st) h k n := by
  obtain ⟨x, h', e1, e2⟩ := bd_some H
  intro p l e s m args below meth c D ks sp ad0 n0 A Q hP hC ad H1 locs ls hp hl hL hs
  obtain ⟨z1, z2, z3, z4, z5, z6, z7⟩ := id hP
  have hts := hC.2.2.2.2.2.1
  refine run_go (Mz := M_L_led) (r := some (.int x)) (h' := h') (st := st) (a' := [.ref (ad a1), .int v, .ref (ad a3)].toArray) hP hC hp hl hL hs.2.2.2 (vx_runSW (n := 3) (hh := ledH) (As := [.ref (ad a1), .int v, .ref (ad a3)]) (rest := st.map (tv sp ad)) ⟨hC.1, hC.2.1, hC.2.2.1, hC.2.2.2.2.1, hts⟩ (con_led e1 l D ks sp ad H1.size z7 hp.2.2.2.1 ⟨hs.2.2.1, trivial, hs.1, trivial⟩) ⟨⟨rfl, rfl, hR.1, hR.2, ledW_words hts, List.mem_cons_self⟩, hts _ wd_1253, hts _ wd_108, ⟨by decide, by decide⟩, fun sig hsig => ?_, hts _ hl0, hts _ wd_1252⟩ ⟨pre_blind _ _ _ _ _ _ _, fun U hU hWm => ⟨rfl, pre_pass hC hp hU hWm⟩⟩ rfl rfl hl.1 rfl (lv_room (by rw [cat_tv]; exact hW)) hd hk) (K x h' e2)
  have : (parseMethodDescriptor yL_led.desc).map (fun d => d.parameters.length) = some 3 := by decide +kernel
  rw [hsig] at this
  exact (Option.some.inj this).symm
