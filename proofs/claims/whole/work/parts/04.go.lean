/-! what stands outside the heap of the small machine: String constants, statics of the JDK -/
def strT : List (List Nat) := [[118, 111, 121, 97, 103, 101], [102, 114, 111, 109], [99, 108, 111, 117, 100, 115], [105, 100, 108, 101], [98, 111, 121], [111, 102, 102, 105, 99, 101, 114], [119, 97, 116, 99, 104], [110, 111, 111, 110], [115, 104, 111, 97, 108], [117, 110, 115, 117, 114, 101], [102, 111, 117, 110, 100], [104, 111, 110, 101, 115, 116], [115, 108, 121], [98, 111, 108, 100], [101, 97, 114, 108, 121], [101, 118, 101, 114, 121], [110, 111, 114, 116, 104], [101, 97, 115, 116], [115, 111, 117, 116, 104], [119, 101, 115, 116], [115, 112, 101, 101, 100], [97, 116]]
def strK : List (String × Nat × String) := [("GlassWatch$Reader", 76, "voyage"), ("GlassWatch$Reader", 144, "from"), ("GlassWatch$Reader", 162, "clouds"), ("GlassWatch$Reader", 166, "idle"), ("GlassWatch$Reader", 91, "boy"), ("GlassWatch$Reader", 102, "officer"), ("GlassWatch$Reader", 110, "watch"), ("GlassWatch$Reader", 115, "noon"), ("GlassWatch$Reader", 123, "shoal"), ("GlassWatch$Reader", 131, "unsure"), ("GlassWatch$Reader", 233, "found"), ("GlassWatch$Reader", 177, "honest"), ("GlassWatch$Reader", 179, "sly"), ("GlassWatch$Reader", 181, "bold"), ("GlassWatch$Reader", 183, "early"), ("GlassWatch$Reader", 193, "every"), ("GlassWatch$Reader", 223, "north"), ("GlassWatch$Reader", 224, "east"), ("GlassWatch$Reader", 225, "south"), ("GlassWatch$Reader", 227, "west"), ("GlassWatch$Reader", 210, "speed"), ("GlassWatch$Reader", 212, "at"), ("GlassWatchModel", 140, "voyage"), ("GlassWatchModel", 230, "from"), ("GlassWatchModel", 236, "clouds"), ("GlassWatchModel", 238, "idle"), ("GlassWatchModel", 142, "boy"), ("GlassWatchModel", 144, "officer"), ("GlassWatchModel", 146, "watch"), ("GlassWatchModel", 148, "noon"), ("GlassWatchModel", 150, "shoal"), ("GlassWatchModel", 152, "unsure"), ("GlassWatchModel", 154, "found"), ("GlassWatchModel", 244, "honest"), ("GlassWatchModel", 246, "sly"), ("GlassWatchModel", 248, "bold"), ("GlassWatchModel", 250, "early"), ("GlassWatchModel", 251, "every"), ("GlassWatchModel", 256, "north"), ("GlassWatchModel", 258, "east"), ("GlassWatchModel", 259, "south"), ("GlassWatchModel", 261, "west"), ("GlassWatchModel", 263, "speed"), ("GlassWatchModel", 265, "at")]
def strL (j : Nat) : Nat := (strT.getD (j % 22) []).length
def strB (j i : Nat) : Int32 := nI ((strT.getD (j % 22) []).getD i 0)
def SS (sp : Nat → Nat) (A : Nat → Prop) (U : State) (H : Heap) : Prop := (∀ i : Nat, i < 44 → va_O "java/lang/String" (sp i) A U H ∧ va_OF "java/lang/String" "coder" "B" (.int 0) (sp i) A U H ∧ va_OF "java/lang/String" "value" "[B" (.ref (sp (100 + i))) (sp i) A U H ∧ va_T .byte (sp (100 + i)) (strL i) (fun j => .int (strB i j)) A U H) ∧ va_Z "java/lang/String" "COMPACT_STRINGS" "Z" (.int 1) A U H ∧ (va_Z "jdk/internal/util/Preconditions" "SIOOBE_FORMATTER" "Ljava/util/function/BiFunction;" .null A U H ∨ va_Z "jdk/internal/util/Preconditions" "SIOOBE_FORMATTER" "Ljava/util/function/BiFunction;" (.ref (sp 200)) A U H) ∧ vx_Zq Bundle.tN "UNASSIGNED_STACK" Bundle.steD A U H ∧ vx_Zq Bundle.tN "SUPPRESSED_SENTINEL" Bundle.listD A U H
def SR (sp : Nat → Nat) (U : State) : Prop := ∀ (i : Nat) (q : String × Nat × String), strK[i]? = some q → vk_R q.1 q.2.1 q.2.2 (sp i) U
def nestL : List (String × Nat × MethodName × String) := [("GlassWatch", 15, yX9_init, "GlassWatch"), ("GlassWatch", 34, yX4_init, "GlassWatch"), ("GlassWatch", 45, yX0_init, "GlassWatch"), ("GlassWatch$Reckoner", 11, yX7_init, "GlassWatch"), ("GlassWatch$Reckoner", 29, yX4_init, "GlassWatch")]
def exD : List MethodName := [⟨"java/lang/RuntimeException", "<init>", "()V"⟩, ⟨"java/lang/Exception", "<init>", "()V"⟩, ⟨"java/lang/Throwable", "<init>", "()V"⟩]
def SN (U : State) : Prop := (∀ q ∈ nestL, va_Nw (.methodLinkNest q.1 q.2.1 q.2.2.1 q.2.2.2) U) ∧ va_AO "GlassWatch$Keeping" U ∧ (∀ q ∈ exD, va_Nw (.declares q) U) ∧ va_Nw (.castable "java/util/NoSuchElementException" "java/util/NoSuchElementException") U
def SX (sp : Nat → Nat) (A : Nat → Prop) (U : State) : Prop := SS sp A U U.heap ∧ SR sp U ∧ SN U
theorem SS.moved {sp : Nat → Nat} {A : Nat → Prop} {u U : State} {H : Heap} (hvm : u.vm.Alike U.vm) (h : SS sp A u H) : SS sp A U H := by
  obtain ⟨h1, h2, h3, h4, h5⟩ := h
  exact ⟨fun i hi => ⟨(h1 i hi).1.moved hvm, (h1 i hi).2.1.moved hvm, (h1 i hi).2.2.1.moved hvm, (h1 i hi).2.2.2.moved hvm⟩, h2.moved hvm, h3.imp (fun z => z.moved hvm) (fun z => z.moved hvm), h4.moved hvm, h5.moved hvm⟩
theorem SS.kept {sp : Nat → Nat} {A : Nat → Prop} {U : State} {H H1 : Heap} (h : SS sp A U H) (hq : ∀ a : Nat, a < H.size → ¬ A a → H1[a]? = H[a]?) : SS sp A U H1 := by
  obtain ⟨h1, h2, h3, h4, h5⟩ := h
  exact ⟨fun i hi => ⟨(h1 i hi).1.kept hq, (h1 i hi).2.1.kept hq, (h1 i hi).2.2.1.kept hq, (h1 i hi).2.2.2.kept hq⟩, h2.kept hq, h3.imp (fun z => z.kept hq) (fun z => z.kept hq), h4.kept hq, h5.kept hq⟩
theorem SS.narrow {sp : Nat → Nat} {A B : Nat → Prop} {U : State} {H : Heap} (h : SS sp A U H) (hAB : ∀ q, B q → A q) : SS sp B U H := by
  obtain ⟨h1, h2, h3, h4, h5⟩ := h
  exact ⟨fun i hi => ⟨(h1 i hi).1.narrow hAB, (h1 i hi).2.1.narrow hAB, (h1 i hi).2.2.1.narrow hAB, (h1 i hi).2.2.2.narrow hAB⟩, h2.narrow hAB, h3.imp (fun z => z.narrow hAB) (fun z => z.narrow hAB), h4.narrow hAB, h5.narrow hAB⟩
theorem SR.warm {sp : Nat → Nat} {s U : State} (hW : s.WarmedH U.vm) (h : SR sp s) : SR sp U := fun i q e => (h i q e).warm hW
theorem SR.same {sp : Nat → Nat} {u U : State} (hv : U.vm = u.vm) (h : SR sp u) : SR sp U := fun i q e => (h i q e).same hv
theorem SN.warm {s U : State} (hW : s.WarmedH U.vm) (h : SN s) : SN U := ⟨fun q hq => (h.1 q hq).warmM hW, h.2.1.moved hW.alike, fun q hq => (h.2.2.1 q hq).warmD hW, h.2.2.2.warmC hW⟩
theorem SN.same {u U : State} (hv : U.vm = u.vm) (h : SN u) : SN U := ⟨fun q hq => (h.1 q hq).same rfl hv.symm, h.2.1.moved (by rw [hv]; exact Vm.Alike.refl _), fun q hq => (h.2.2.1 q hq).same rfl hv.symm, h.2.2.2.same rfl hv.symm⟩
/-- a callee's start has what the caller has -/
theorem SX.pass {sp : Nat → Nat} {A B : Nat → Prop} {s U : State} {H : Heap} {locs : List Loc} (hX : SX sp A s) (hS : va_S A s.heap H locs) (hU : U.heap = H) (hW : s.WarmedH U.vm) (hAB : ∀ q, B q → A q) : SX sp B U := by
  subst hU
  exact ⟨((hX.1.kept (fun a h1 h2 => hS.2.1 a h1 h2)).moved hW.alike).narrow hAB, hX.2.1.warm hW, hX.2.2.warm hW⟩
/-! a method's start and end -/
def PreU (D : va_G) (ks sp ad : Nat → Nat) (sz : Nat) (h : Hp) (U : State) : Prop := U.heap.size = sz ∧ va_P D vwCl (wsO ks sp ad h) U.heap ∧ va_K D vwCl (tysO ks) U ∧ va_D (fun _ => True) (wsO ks sp ad h) ∧ SX sp (va_A (wsO ks sp ad h) sz) U
def Qc (D : va_G) (ks sp ad : Nat → Nat) (sz : Nat) (h : Hp) (r : Option Value) (h' : Hp) : Array Value → State → Outcome → State → Prop := fun _ st oc t =>
  (∃ ad' : Nat → Nat, (∀ i, i < h.1 → ad' i = ad i) ∧ h.1 ≤ h'.1 ∧ oc = .returned (r.map (tv sp ad')) ∧ va_P D vwCl (wsO ks sp ad' h') t.heap ∧ va_D (va_A (wsO ks sp ad h) sz) (wsO ks sp ad' h') ∧ wfh h' ∧ ∀ v, r = some v → wfv h'.1 v) ∧ va_F (va_A (wsO ks sp ad h) sz) st t
def Con (M : MD) (as : List Value) (h : Hp) (r : Option Value) (h' : Hp) : Prop := ∀ (l : Launch) (D : va_G) (ks sp ad : Nat → Nat) (sz : Nat), wfh h → wfs h.1 as → Met l (mdY M) (mdW M) (mdRoom M) (va_Pc (as.map (tv sp ad)) (PreU D ks sp ad sz h)) (Qc D ks sp ad sz h r h') (mdC M) (mdS M) (va_A (wsO ks sp ad h) sz)
/-- what stays through a method's body -/
def Cx (M : MD) (p : Program) (s : State) (m : MethodId) (args : Array Value) (meth : Method) (c : Code) (D : va_G) (ks sp : Nat → Nat) (A : Nat → Prop) : Prop :=
  p.tables.exec = Jvm.exec ∧ c.code = mdB M ∧ c.maxLocals = mdL M ∧ meth.sig.returnType = mdR M ∧ s.vm.findClass (mdY M).cls = some m.cls ∧ (∀ w ∈ TB, w.before args s = true) ∧ va_K D vwCl (tysO ks) s ∧ (∀ q, s.heap.size ≤ q → A q) ∧ SX sp A s ∧ meth.locks = false ∧ meth.name = (mdY M).name
/-- the heap now -/
def Pi (D : va_G) (ks sp ad0 : Nat → Nat) (n0 : Nat) (A : Nat → Prop) (s : State) (ad : Nat → Nat) (h : Hp) (H : Heap) (locs : List Loc) : Prop :=
  va_P D vwCl (wsO ks sp ad h) H ∧ va_D A (wsO ks sp ad h) ∧ va_S A s.heap H locs ∧ wfh h ∧ n0 ≤ h.1 ∧ ∀ i, i < n0 → ad i = ad0 i
abbrev PT : Type := Program → Launch → Env → State → MethodId → Array Value → List Frame → Method → Code → va_G → (Nat → Nat) → (Nat → Nat) → (Nat → Nat) → Nat → (Nat → Prop) → (State → Prop) → Prop
/-- the machine, at this place of the method with these locals, this stack and this heap, comes to its end (P says which) -/
def Go (P : PT) (M : MD) (pc : Nat) (L : List (Option Value)) (st : List Value) (h : Hp) (k n : Nat) : Prop :=
  ∀ (p : Program) (l : Launch) (e : Env) (s : State) (m : MethodId) (args : Array Value) (below : List Frame) (meth : Method) (c : Code) (D : va_G) (ks sp ad0 : Nat → Nat) (n0 : Nat) (A : Nat → Prop) (Q : State → Prop),
    P p l e s m args below meth c D ks sp ad0 n0 A Q → Cx M p s m args meth c D ks sp A → ∀ (ad : Nat → Nat) (H : Heap) (locs : List Loc) (ls : Array Slot), Pi D ks sp ad0 n0 A s ad h H locs → lv_has ls (mdL M) (prs sp ad 0 L) → wfL h.1 L → wfs h.1 st →
    W p l e (mdRoom M) s m args below meth c H locs k n Q (F0 m pc ls (st.map (tv sp ad)))
def PM (M : MD) (h0 : Hp) (r : Option Value) (h' : Hp) : PT := fun _ _ _ s _ args below _ _ D ks sp ad0 n0 A Q =>
  n0 = h0.1 ∧ A = va_A (wsO ks sp ad0 h0) s.heap.size ∧ Q = MQ below (Qc D ks sp ad0 s.heap.size h0 r h') args s (mdC M) (mdS M) A
theorem Go.weak {P : PT} {M : MD} {pc : Nat} {L L' : List (Option Value)} {st : List Value} {h : Hp} {k n : Nat} (hw : wkL L' L) (K : Go P M pc L' st h k n) : Go P M pc L st h k n := by
  intro p l e s m args below meth c D ks sp ad0 n0 A Q hP hC ad H locs ls hp hl hL hs
  refine K p l e s m args below meth c D ks sp ad0 n0 A Q hP hC ad H locs ls hp (prs_sub hl fun q hq => ?_) (wfL_of fun j v e => wfL_get hL j v (wkL_get hw j v e)) hs
  obtain ⟨j, v, e1, e2⟩ := prs_mem.mp hq
  exact prs_mem.mpr ⟨j, v, wkL_get hw j v e1, e2⟩
theorem Go.widen {P : PT} {M : MD} {pc : Nat} {L : List (Option Value)} {st : List Value} {h : Hp} {k n k' n' : Nat} (h1 : k ≤ k') (h2 : n ≤ n') (K : Go P M pc L st h k' n') : Go P M pc L st h k n := by
  intro p l e s m args below meth c D ks sp ad0 n0 A Q hP hC ad H locs ls hp hl hL hs
  exact W.widen h1 h2 (K p l e s m args below meth c D ks sp ad0 n0 A Q hP hC ad H locs ls hp hl hL hs)
def entL : List Value → List (Option Value)
  | [] => []
  | v :: t => if v.category = 2 then some v :: none :: entL t else some v :: entL t
theorem prs_none (sp ad : Nat → Nat) (j : Nat) : ∀ b, prs sp ad b (List.replicate j none) = [] := by
  induction j with
  | zero => intro b; rfl
  | succ j ih => intro b; rw [List.replicate_succ, prs]; exact ih (b + 1)
theorem prs_ent (sp ad : Nat → Nat) (j : Nat) : ∀ (as : List Value) (b : Nat), prs sp ad b (entL as ++ List.replicate j none) = lv_args b (as.map (tv sp ad))
  | [], b => by simp [entL, lv_args, prs_none]
  | v :: t, b => by
    rw [entL, List.map_cons, lv_args, tv_cat]
    split
    · simp only [List.cons_append, prs]
      rw [prs_ent sp ad j t (b + 1 + 1)]
    · simp only [List.cons_append, prs]
      rw [prs_ent sp ad j t (b + 1)]
theorem lg_sl_len (sp ad : Nat → Nat) : ∀ as : List Value, (lg_sl (as.map (tv sp ad))).length = (as.map fun v => v.category).sum
  | [] => rfl
  | v :: t => by
    have ih := lg_sl_len sp ad t
    rw [List.map_cons, List.map_cons, List.sum_cons]
    unfold lg_sl at ih ⊢
    rw [List.flatMap_cons, List.length_append, ih, tv_cat]
    rcases lv_cat v with hc | hc <;> simp [hc]
theorem wfL_ent {n j : Nat} : ∀ {as : List Value}, wfs n as → wfL n (entL as ++ List.replicate j none)
  | [], _ => by
    simp only [entL, List.nil_append]
    induction j with
    | zero => trivial
    | succ j ih => rw [List.replicate_succ]; exact ih
  | v :: t, h => by
    rw [entL]
    split
    · exact ⟨h.1, wfL_ent h.2⟩
    · exact ⟨h.1, wfL_ent h.2⟩
theorem met_ofW {l : Launch} {y : MethodName} {ws ws' : List Cond} {rm : Room} {Pc : Array Value → State → Prop} {Qc : Array Value → State → Outcome → State → Prop} {mc ms : Nat} {free : Addr → Prop} {cc : ByteArray} {maxL : Nat} {ret : Option FieldType}
    (hy : plainFor y = true) (hw : ws = Cond.code y cc maxL ret :: ws')
    (body : ∀ p e s m args below meth c s₁, BodyLoose p l y (headSpec ws rm) cc maxL ret e s m args below meth c s₁ → c.maxLocals = maxL → Pc args s →
      W p l e (headSpec ws rm).room s m args below meth c s.heap [] 0 0 (MQ below Qc args s mc ms free) (entryFrame m args maxL)) : Met l y ws rm Pc Qc mc ms free := by
  refine MetFree.of_bodySF (code := cc) (maxLocals := maxL) (ret := ret) hy ?_ ?_
  · intro args s m h hn
    obtain ⟨meth, c, h1, h2, h3, h4, h5, h6, -, -⟩ := Cond.code_spec hn (atoms_spec (ws := ws) h _ (by rw [hw]; exact List.mem_cons_self))
    exact ⟨meth, c, h1, h2, h3, h4, h5, h6⟩
  · intro p e s m args below meth c s₁ B hml hP _
    have hh0 : s₁.heap = s.heap := by rw [B.state]; rfl
    obtain ⟨t, a1, o, b1, b2, b3⟩ := body p e s m args below meth c s₁ B hml hP s₁ hh0 (Stand.of_body B)
    exact ⟨t, o, a1, b1, b2, ⟨b3.1, b3.2⟩⟩
theorem con_of_go {M : MD} {as : List Value} {h h' : Hp} {r : Option Value} (hpl : plainFor (mdY M) = true) (j : Nat) {L : List (Option Value)} (hL : entL as ++ List.replicate j none = L) (hf : (as.map fun v => v.category).sum ≤ mdL M) (g : Go (PM M h r h') M 0 L [] h 0 0) : Con M as h r h' := by
  subst hL
  intro l D ks sp ad sz wh wa
  refine met_ofW (cc := mdB M) (maxL := mdL M) (ret := mdR M) hpl rfl ?_
  intro p e s m args below meth c s₁ B hml hv
  obtain ⟨rfl, hsz, hP, hK, hD0, hX⟩ := hv
  subst hsz
  have hts := atoms_spec (ws := mdW M) B.pre
  have hown : s.vm.findClass (mdY M).cls = some m.cls := findClass_of_methodNamed B.named
  have hin : meth.name = (mdY M).name := (name_of_methodNamed B.named B.method).1
  have hl := lv_entry (as.map (tv sp ad)) (n := mdL M) (by rw [lg_sl_len]; exact hf)
  rw [lg_entry_eq]
  refine g p l e s m _ below meth c D ks sp ad h.1 _ _ ⟨rfl, rfl, rfl⟩ ⟨B.exec, B.bytes, hml, B.returns, hown, fun w hw => hts w (List.mem_cons_of_mem _ hw), hK, fun q hq => Or.inr hq, hX, B.notSynchronized, hin⟩ ad s.heap [] _ ⟨hP, hD0.self, va_S.rf, wh, Nat.le_refl _, fun _ _ => rfl⟩ ?_ (wfL_ent wa) trivial
  rw [prs_ent]
  exact hl
