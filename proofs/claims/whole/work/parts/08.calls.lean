/-! calls and ends -/
/-- what the tables say of a callee: its code, its class, how many parameters -/
def CB (Mz : MD) (np : Nat) : Prop := Cond.code (mdY Mz) (mdB Mz) (mdL Mz) (mdR Mz) ∈ TB ∧ Cond.initialized (mdY Mz).cls ∈ TB ∧ ((mdY Mz).cls ≠ "java/lang/invoke/MethodHandle" ∧ (mdY Mz).cls ≠ "java/lang/invoke/VarHandle") ∧ (parseMethodDescriptor (mdY Mz).desc).map (fun d => d.parameters.length) = some np
def CVo (Mz : MD) (np ci : Nat) : Prop := CB Mz np ∧ Cond.instanceMethod (mdY Mz) ∈ TB ∧ Cond.selects (mdY Mz).cls (mdY Mz) (mdY Mz) ∈ TB ∧ ∃ q, vwCl[ci]? = some q ∧ q.1 = (mdY Mz).cls
def CSo (Mz : MD) (np : Nat) : Prop := CB Mz np ∧ Cond.static (mdY Mz) ∈ TB
def CIo (Mz : MD) (np : Nat) : Prop := CB Mz np ∧ Cond.instanceMethod (mdY Mz) ∈ TB ∧ (mdY Mz).name = "<init>" ∧ mdR Mz = none
def RM (M Mz : MD) : Prop := mdF Mz + 1 ≤ mdF M ∧ 8 + (mdL Mz + 11) + mdO Mz ≤ mdO M
section R
variable {P : PT} {M : MD} {pc : Nat} {L : List (Option Value)} {st : List Value} {h : Hp} {k n : Nat}
theorem cat_tv (sp ad : Nat → Nat) (st : List Value) : ((st.map (tv sp ad)).map fun v => v.category).sum = (st.map fun v => v.category).sum := by
  rw [List.map_map, show ((fun v : Value => v.category) ∘ tv sp ad) = fun v => v.category from funext (fun v => tv_cat sp ad v)]
theorem cb_words {Mz : MD} {np : Nat} (hB : CB Mz np) {s : State} {args : Array Value} (hts : ∀ w ∈ TB, w.before args s = true) : ∀ w ∈ mdW Mz, ∀ (a' : Array Value) (U : State), s.WarmedH U.vm → w.before a' U = true := by
  intro w hw a' U hW
  have h1 : w ∈ TB := by
    rcases List.mem_cons.mp hw with rfl | h1
    · exact hB.1
    · exact h1
  exact word_at hW (good_of_word (tb_good h1)) (hts w h1)
theorem cb_call {Mz : MD} {np idx : Nat} {own : String} (hB : CB Mz np) (hR : RM M Mz) (hl : Cond.methodLink own idx (mdY Mz) ∈ TB) {s : State} {args : Array Value} (hts : ∀ w ∈ TB, w.before args s = true) : CallB (mdRoom M) s args own idx (mdY Mz) (mdB Mz) (mdL Mz) (mdR Mz) (mdW Mz) (mdRoom Mz) (mdC Mz) (mdS Mz) np := by
  refine ⟨rfl, rfl, hR.1, hR.2, cb_words hB hts, List.mem_cons_self, hts _ hB.1, hts _ hB.2.1, hB.2.2.1, fun sig h => ?_, hts _ hl⟩
  have h2 := hB.2.2.2
  rw [h] at h2
  exact (Option.some.inj h2).symm
theorem cb_nest {Mz : MD} {np idx : Nat} {own host : String} (hB : CB Mz np) (hR : RM M Mz) {s : State} {args : Array Value} (hl : va_Nw (.methodLinkNest own idx (mdY Mz) host) s) (hts : ∀ w ∈ TB, w.before args s = true) : va_CN (mdRoom M) s args own idx (mdY Mz) host (mdB Mz) (mdL Mz) (mdR Mz) (mdW Mz) (mdRoom Mz) (mdC Mz) (mdS Mz) np := by
  refine ⟨⟨rfl, rfl, hR.1, hR.2, cb_words hB hts, List.mem_cons_self⟩, hts _ hB.1, hts _ hB.2.1, hB.2.2.1, fun sig h => ?_, va_Nw.use rfl hl⟩
  have h2 := hB.2.2.2
  rw [h] at h2
  exact (Option.some.inj h2).symm
theorem pi_free {D : va_G} {ks sp ad0 ad : Nat → Nat} {n0 : Nat} {A : Nat → Prop} {s : State} {H : Heap} {locs : List Loc} (hp : Pi D ks sp ad0 n0 A s ad h H locs) (hA : ∀ q, s.heap.size ≤ q → A q) : ∀ q, va_A (wsO ks sp ad h) H.size q → A q := by
  intro q hq
  rcases hq with ⟨i, E, hi⟩ | hq
  · exact hp.2.1.2 i _ hi
  · exact hA q (Nat.le_trans hp.2.2.1.1 hq)
theorem pre_pass {D : va_G} {ks sp ad0 ad : Nat → Nat} {n0 : Nat} {A : Nat → Prop} {p : Program} {s : State} {m : MethodId} {args : Array Value} {meth : Method} {c : Code} {H : Heap} {locs : List Loc} (hC : Cx M p s m args meth c D ks sp A) (hp : Pi D ks sp ad0 n0 A s ad h H locs) {U : State} (hU : U.heap = H) (hW : s.WarmedH U.vm) : PreU D ks sp ad H.size h U :=
  ⟨by rw [hU], by rw [hU]; exact hp.1, hC.2.2.2.2.2.2.1.moved hW.alike, hp.2.1.weaken (fun _ _ _ _ => trivial), hC.2.2.2.2.2.2.2.2.1.pass hp.2.2.1 hU hW (pi_free hp hC.2.2.2.2.2.2.2.1)⟩
theorem pre_blind (as : List Value) (D : va_G) (ks sp ad : Nat → Nat) (sz : Nat) (h : Hp) : FrameBlind (va_Pc as (PreU D ks sp ad sz h)) := by
  intro a U g mk q
  obtain ⟨q0, q1, qP, qK, qD, q2, q3, q4⟩ := q
  exact ⟨q0, q1, qP, va_K.moved (u := U) (U := U.calling g mk a) (Vm.Alike.refl U.vm) qK, qD, SS.moved (u := U) (U := U.calling g mk a) (Vm.Alike.refl U.vm) q2, SR.same (u := U) (U := U.calling g mk a) rfl q3, SN.same (u := U) (U := U.calling g mk a) rfl q4⟩
/-- behind a call -/
theorem run_go {Mz : MD} {r : Option Value} {h' : Hp} {p : Program} {l : Launch} {e : Env} {s : State} {m : MethodId} {args a' : Array Value} {below : List Frame} {meth : Method} {c : Code} {D : va_G} {ks sp ad0 : Nat → Nat} {n0 : Nat} {A : Nat → Prop} {Q : State → Prop} {ad : Nat → Nat} {H : Heap} {locs : List Loc} {ls : Array Slot} {st0 : List Value}
    (hP : P p l e s m args below meth c D ks sp ad0 n0 A Q) (hC : Cx M p s m args meth c D ks sp A) (hp : Pi D ks sp ad0 n0 A s ad h H locs) (hl : lv_has ls (mdL M) (prs sp ad 0 L)) (hL : wfL h.1 L) (hs : wfs h.1 st)
    (hr : va_Run p l e (mdRoom M) s m args below meth c H locs k n (mdC Mz) (mdS Mz) (F0 m pc ls st0) (st.map (tv sp ad)) (Qc D ks sp ad H.size h r h' a') (va_A (wsO ks sp ad h) H.size))
    (K : Go P M (pc + 3) L (r.toList ++ st) h' (k + mdC Mz) (n + mdS Mz)) : W p l e (mdRoom M) s m args below meth c H locs k n Q (F0 m pc ls st0) := by
  intro T hT X
  obtain ⟨v, st₀, t, T', Lc, h0, X', hLc, e1, e2, ⟨⟨ad', ha, hle, hv, hP1, hD1, hw1, hr1⟩, hz, hk⟩, go⟩ := hr T hT X
  cases hv
  rw [h0] at hz hk
  have hA := hC.2.2.2.2.2.2.2.1
  have hfree := pi_free hp hA
  have hS := hp.2.2.1
  have hS' : va_S A s.heap T'.heap (locs ++ Lc) := ⟨Nat.le_trans hS.1 (by rw [e1]; exact hz), fun q h1 h2 => by rw [e1, hk q (Nat.lt_of_lt_of_le h1 hS.1) (fun z => h2 (hfree q z))]; exact hS.2.1 q h1 h2, fun q hq => by
      rcases List.mem_append.mp hq with h1 | h1
      · exact hS.2.2 q h1
      · exact hfree _ (hLc q h1)⟩
  have hws : wfs h'.1 (r.toList ++ st) := by
    refine wfs_of fun w hw => ?_
    rcases List.mem_append.mp hw with h1 | h1
    · cases r with
      | none => cases h1
      | some z => rw [List.mem_singleton.mp h1]; exact hr1 z rfl
    · exact wfv_up hle (wfs_get hs w h1)
  have kk := K p l e s m args below meth c D ks sp ad0 n0 A Q hP hC ad' T'.heap (locs ++ Lc) ls ⟨by rw [e1]; exact hP1, hD1.weaken (fun _ q _ z => hfree q.1 z), hS', hw1, Nat.le_trans hp.2.2.2.2.1 hle, fun i hi => (ha i (Nat.lt_of_lt_of_le hi hp.2.2.2.2.1)).trans (hp.2.2.2.2.2 i hi)⟩ (by rw [prs_ad ha 0 hL]; exact hl) (wfL_up hle hL) hws
  have e3 : (r.toList ++ st).map (tv sp ad') = (r.map (tv sp ad')).toList ++ st.map (tv sp ad) := by
    rw [List.map_append, tvs_ad ha hs]
    cases r <;> rfl
  rw [e3] at kk
  obtain ⟨t2, a1, b1⟩ := kk T' rfl X'
  exact ⟨t2, go t2 a1, b1⟩
theorem rev_tv (sp ad : Nat → Nat) (as st : List Value) : (as.reverse ++ st).map (tv sp ad) = (as.map (tv sp ad)).reverse ++ st.map (tv sp ad) := by rw [List.map_append, List.map_reverse]
theorem go_cV {Mz : MD} {as stk : List Value} {a idx np ci : Nat} {r : Option Value} {h' : Hp} (hd : decode (mdB M) pc = .ok (.invokevirtual idx, 3)) (hl0 : Cond.methodLink (mdY M).cls idx (mdY Mz) ∈ TB) (hz : CVo Mz np ci) (hcon : Con Mz (.ref a :: as) h r h') (hst : as.reverse ++ .ref a :: st = stk) (hn : as.length = np) (hR : RM M Mz) (hW : (st.map fun v => v.category).sum ≤ 8) (hcell : ∃ fs, h.2 a = .inr (ci, fs)) (hk : k + mdC Mz ≤ mdC M ∧ n + mdS Mz ≤ mdS M) (K : Go P M (pc + 3) L (r.toList ++ st) h' (k + mdC Mz) (n + mdS Mz)) : Go P M pc L stk h k n := by
  subst hst
  intro p l e s m args below meth c D ks sp ad0 n0 A Q hP hC ad H1 locs ls hp hl hL hs
  obtain ⟨fs, e1⟩ := hcell
  obtain ⟨ws1, ws2⟩ := wfs_app hs
  have wa := wfs_rev ws1
  obtain ⟨q, q1, q2⟩ := hz.2.2.2
  have ha : a < h.1 := ws2.1
  have hrecv := va_recv hC.2.2.2.2.2.2.1 hp.1 q1 (show (wsO ks sp ad h)[a]? = some (ad a, .inr (ci, fs.map (tv sp ad))) by rw [wsO_get ha, e1]; rfl)
  rw [q2] at hrecv
  refine run_go (a' := (Value.ref (ad a) :: as.map (tv sp ad)).toArray) hP hC hp hl hL ws2.2 (va_runV (As := as.map (tv sp ad)) (rest := st.map (tv sp ad)) ⟨hC.1, hC.2.1, hC.2.2.1, hC.2.2.2.2.1, hC.2.2.2.2.2.1⟩ (hcon l D ks sp ad H1.size hp.2.2.2.1 ⟨ha, wa⟩) ⟨cb_call hz.1 hR hl0 hC.2.2.2.2.2.1, hC.2.2.2.2.2.1 _ hz.2.1, hC.2.2.2.2.2.1 _ hz.2.2.1⟩ ⟨pre_blind _ _ _ _ _ _ _, hrecv, fun U hU hWm => ⟨rfl, pre_pass hC hp hU hWm⟩⟩ rfl (by rw [List.length_map]; exact hn) hl.1 (rev_tv sp ad as (.ref a :: st)) (lv_room (by rw [cat_tv]; exact hW)) hd hk) K
theorem go_cS {Mz : MD} {as stk : List Value} {idx np : Nat} {r : Option Value} {h' : Hp} (hd : decode (mdB M) pc = .ok (.invokestatic idx, 3)) (hl0 : Cond.methodLink (mdY M).cls idx (mdY Mz) ∈ TB) (hz : CSo Mz np) (hcon : Con Mz as h r h') (hst : as.reverse ++ st = stk) (hn : as.length = np) (hR : RM M Mz) (hW : (st.map fun v => v.category).sum ≤ 8) (hk : k + mdC Mz ≤ mdC M ∧ n + mdS Mz ≤ mdS M) (K : Go P M (pc + 3) L (r.toList ++ st) h' (k + mdC Mz) (n + mdS Mz)) : Go P M pc L stk h k n := by
  subst hst
  intro p l e s m args below meth c D ks sp ad0 n0 A Q hP hC ad H1 locs ls hp hl hL hs
  obtain ⟨ws1, ws2⟩ := wfs_app hs
  have wa := wfs_rev ws1
  exact run_go (a' := (as.map (tv sp ad)).toArray) hP hC hp hl hL ws2 (va_runS (As := as.map (tv sp ad)) (rest := st.map (tv sp ad)) ⟨hC.1, hC.2.1, hC.2.2.1, hC.2.2.2.2.1, hC.2.2.2.2.2.1⟩ (hcon l D ks sp ad H1.size hp.2.2.2.1 wa) ⟨cb_call hz.1 hR hl0 hC.2.2.2.2.2.1, hC.2.2.2.2.2.1 _ hz.2⟩ ⟨pre_blind _ _ _ _ _ _ _, fun U hU hWm => ⟨rfl, pre_pass hC hp hU hWm⟩⟩ rfl (by rw [List.length_map]; exact hn) hl.1 (rev_tv sp ad as st) (lv_room (by rw [cat_tv]; exact hW)) hd hk) K
theorem go_cI {Mz : MD} {as stk : List Value} {a idx np : Nat} {r : Option Value} {h' : Hp} (hd : decode (mdB M) pc = .ok (.invokespecial idx, 3)) (hl0 : Cond.methodLink (mdY M).cls idx (mdY Mz) ∈ TB) (hz : CIo Mz np) (hcon : Con Mz (.ref a :: as) h r h') (hst : as.reverse ++ .ref a :: st = stk) (hn : as.length = np) (hR : RM M Mz) (hW : (st.map fun v => v.category).sum ≤ 8) (hk : k + mdC Mz ≤ mdC M ∧ n + mdS Mz ≤ mdS M) (K : Go P M (pc + 3) L (r.toList ++ st) h' (k + mdC Mz) (n + mdS Mz)) : Go P M pc L stk h k n := by
  subst hst
  intro p l e s m args below meth c D ks sp ad0 n0 A Q hP hC ad H1 locs ls hp hl hL hs
  obtain ⟨ws1, ws2⟩ := wfs_app hs
  have wa := wfs_rev ws1
  have ha : a < h.1 := ws2.1
  have cb := cb_call hz.1 hR hl0 hC.2.2.2.2.2.1
  rw [hz.2.2.2] at cb
  exact run_go (a' := (Value.ref (ad a) :: as.map (tv sp ad)).toArray) hP hC hp hl hL ws2.2 (va_runI (As := as.map (tv sp ad)) (rest := st.map (tv sp ad)) ⟨hC.1, hC.2.1, hC.2.2.1, hC.2.2.2.2.1, hC.2.2.2.2.2.1⟩ (hcon l D ks sp ad H1.size hp.2.2.2.1 ⟨ha, wa⟩) ⟨cb, hz.2.2.1, hC.2.2.2.2.2.1 _ hz.2.1⟩ ⟨pre_blind _ _ _ _ _ _ _, fun U hU hWm => ⟨rfl, pre_pass hC hp hU hWm⟩⟩ rfl (by rw [List.length_map]; exact hn) hl.1 (rev_tv sp ad as (.ref a :: st)) (lv_room (by rw [cat_tv]; exact hW)) hd hk) K
theorem go_cIN {Mz : MD} {as stk : List Value} {a idx np : Nat} {host : String} {r : Option Value} {h' : Hp} (hd : decode (mdB M) pc = .ok (.invokespecial idx, 3)) (hl0 : ((mdY M).cls, idx, mdY Mz, host) ∈ nestL) (hz : CIo Mz np) (hcon : Con Mz (.ref a :: as) h r h') (hst : as.reverse ++ .ref a :: st = stk) (hn : as.length = np) (hR : RM M Mz) (hW : (st.map fun v => v.category).sum ≤ 8) (hk : k + mdC Mz ≤ mdC M ∧ n + mdS Mz ≤ mdS M) (K : Go P M (pc + 3) L (r.toList ++ st) h' (k + mdC Mz) (n + mdS Mz)) : Go P M pc L stk h k n := by
  subst hst
  intro p l e s m args below meth c D ks sp ad0 n0 A Q hP hC ad H1 locs ls hp hl hL hs
  obtain ⟨ws1, ws2⟩ := wfs_app hs
  have wa := wfs_rev ws1
  have ha : a < h.1 := ws2.1
  have cb := cb_nest (host := host) hz.1 hR (hC.2.2.2.2.2.2.2.2.1.2.2.1 _ hl0) hC.2.2.2.2.2.1
  rw [hz.2.2.2] at cb
  exact run_go (a' := (Value.ref (ad a) :: as.map (tv sp ad)).toArray) hP hC hp hl hL ws2.2 (va_runIN (As := as.map (tv sp ad)) (rest := st.map (tv sp ad)) ⟨hC.1, hC.2.1, hC.2.2.1, hC.2.2.2.2.1, hC.2.2.2.2.2.1⟩ (hcon l D ks sp ad H1.size hp.2.2.2.1 ⟨ha, wa⟩) ⟨cb, hz.2.2.1, hC.2.2.2.2.2.1 _ hz.2.1⟩ ⟨pre_blind _ _ _ _ _ _ _, fun U hU hWm => ⟨rfl, pre_pass hC hp hU hWm⟩⟩ rfl (by rw [List.length_map]; exact hn) hl.1 (rev_tv sp ad as (.ref a :: st)) (lv_room (by rw [cat_tv]; exact hW)) hd hk) K
/-- a method's end -/
theorem end_q {p : Program} {s : State} {m : MethodId} {args : Array Value} {meth : Method} {c : Code} {D : va_G} {ks sp ad0 : Nat → Nat} {A : Nat → Prop} {ad : Nat → Nat} {H : Heap} {locs : List Loc} {h0 : Hp} {r : Option Value} (hA : A = va_A (wsO ks sp ad0 h0) s.heap.size) (hp : Pi D ks sp ad0 h0.1 A s ad h H locs) (hr : ∀ v, r = some v → wfv h.1 v) : ∀ t : State, t.heap = H → s.WarmedH t.vm → Qc D ks sp ad0 s.heap.size h0 r h args s (.returned (r.map (tv sp ad))) t := by
  intro t ht hWm
  subst hA
  exact ⟨⟨ad, hp.2.2.2.2.2, hp.2.2.2.2.1, rfl, by rw [ht]; exact hp.1, hp.2.1, hp.2.2.2.1, hr⟩, hp.2.2.1.F ht⟩
theorem go_iret {h0 h' : Hp} {x : Int32} {y : Int32} (hd : decode (mdB M) pc = .ok (.ireturn, 1)) (hr : mdR M = some .int) (hk : k ≤ mdC M ∧ n ≤ mdS M) (H : some (x, h) = some (y, h')) : Go (PM M h0 (some (.int y)) h') M pc L [.int x] h k n := by
  cases H
  intro p l e s m args below meth c D ks sp ad0 n0 A Q hP hC ad H1 locs ls hp hl hL hs
  obtain ⟨rfl, hA, rfl⟩ := hP
  exact W.widen hk.1 hk.2 (W.iret hC.1 hC.2.1 (hC.2.2.2.1.trans hr) (end_q (p := p) (m := m) (meth := meth) (c := c) (r := some (.int x)) hA hp (fun v e => by cases e; exact hs.1)) hp.2.2.1.2.2 hd hC.2.2.2.2.2.2.2.2.2.1)
theorem go_lret {h0 h' : Hp} {x : Int64} {y : Int64} (hd : decode (mdB M) pc = .ok (.lreturn, 1)) (hr : mdR M = some .long) (hk : k ≤ mdC M ∧ n ≤ mdS M) (H : some (x, h) = some (y, h')) : Go (PM M h0 (some (.long y)) h') M pc L [.long x] h k n := by
  cases H
  intro p l e s m args below meth c D ks sp ad0 n0 A Q hP hC ad H1 locs ls hp hl hL hs
  obtain ⟨rfl, hA, rfl⟩ := hP
  exact W.widen hk.1 hk.2 (W.lret hC.1 hC.2.1 (hC.2.2.2.1.trans hr) (end_q (p := p) (m := m) (meth := meth) (c := c) (r := some (.long x)) hA hp (fun v e => by cases e; exact hs.1)) hp.2.2.1.2.2 hd hC.2.2.2.2.2.2.2.2.2.1)
/-- an answer that is a boolean: 0 or 1 -/
def rZ (x : Int32) (h : Hp) : Option (Int32 × Hp) := if x = 0 ∨ x = 1 then some (x, h) else none
theorem go_zret {h0 h' : Hp} {x y : Int32} (hd : decode (mdB M) pc = .ok (.ireturn, 1)) (hr : mdR M = some .boolean) (hk : k ≤ mdC M ∧ n ≤ mdS M) (H : rZ x h = some (y, h')) : Go (PM M h0 (some (.int y)) h') M pc L [.int x] h k n := by
  unfold rZ at H
  split at H
  · rename_i hx
    cases H
    intro p l e s m args below meth c D ks sp ad0 n0 A Q hP hC ad H1 locs ls hp hl hL hs
    obtain ⟨rfl, hA, rfl⟩ := hP
    exact W.widen hk.1 hk.2 (W.zret hC.1 hC.2.1 (hC.2.2.2.1.trans hr) (by rcases hx with rfl | rfl <;> rfl) (end_q (p := p) (m := m) (meth := meth) (c := c) (r := some (.int x)) hA hp (fun v e => by cases e; exact hs.1)) hp.2.2.1.2.2 hd hC.2.2.2.2.2.2.2.2.2.1)
  · cases H
theorem go_vret {h0 h' : Hp} (hd : decode (mdB M) pc = .ok (.return_, 1)) (hr : mdR M = none) (hk : k ≤ mdC M ∧ n ≤ mdS M) (H : some h = some h') : Go (PM M h0 none h') M pc L [] h k n := by
  cases H
  intro p l e s m args below meth c D ks sp ad0 n0 A Q hP hC ad H1 locs ls hp hl hL hs
  obtain ⟨rfl, hA, rfl⟩ := hP
  exact W.widen hk.1 hk.2 (W.vret hC.1 hC.2.1 (hC.2.2.2.1.trans hr) (end_q (p := p) (m := m) (meth := meth) (c := c) (r := none) hA hp (fun v e => by cases e)) hp.2.2.1.2.2 hd hC.2.2.2.2.2.2.2.2.2.1)
theorem go_aret {h0 h' : Hp} {x y : Nat} {C : String} (hd : decode (mdB M) pc = .ok (.areturn, 1)) (hr : mdR M = some (.object C)) (hk : k ≤ mdC M ∧ n ≤ mdS M) (H : some (x, h) = some (y, h')) : Go (PM M h0 (some (.ref y)) h') M pc L [.ref x] h k n := by
  cases H
  intro p l e s m args below meth c D ks sp ad0 n0 A Q hP hC ad H1 locs ls hp hl hL hs
  obtain ⟨rfl, hA, rfl⟩ := hP
  exact W.widen hk.1 hk.2 (W.aret hC.1 hC.2.1 (hC.2.2.2.1.trans hr) (Or.inl ⟨_, rfl⟩) (Or.inr ⟨_, rfl⟩) (end_q (p := p) (m := m) (meth := meth) (c := c) (r := some (.ref x)) hA hp (fun v e => by cases e; exact hs.1)) hp.2.2.1.2.2 hd hC.2.2.2.2.2.2.2.2.2.1)
/-- an answer that may be null -/
def orf (o : Option Nat) : Value := match o with
  | some a => .ref a
  | none => .null
theorem go_aretQ {h0 h' : Hp} {x y : Option Nat} {C : String} (hd : decode (mdB M) pc = .ok (.areturn, 1)) (hr : mdR M = some (.object C)) (hk : k ≤ mdC M ∧ n ≤ mdS M) (H : some (x, h) = some (y, h')) : Go (PM M h0 (some (orf y)) h') M pc L [orf x] h k n := by
  cases H
  intro p l e s m args below meth c D ks sp ad0 n0 A Q hP hC ad H1 locs ls hp hl hL hs
  obtain ⟨rfl, hA, rfl⟩ := hP
  exact W.widen hk.1 hk.2 (W.aret hC.1 hC.2.1 (hC.2.2.2.1.trans hr) (Or.inl ⟨_, rfl⟩) (by cases x with
    | none => exact Or.inl rfl
    | some a => exact Or.inr ⟨_, rfl⟩) (end_q (p := p) (m := m) (meth := meth) (c := c) (r := some (orf x)) hA hp (fun v e => by cases e; exact hs.1)) hp.2.2.1.2.2 hd hC.2.2.2.2.2.2.2.2.2.1)
/-! the plain function's call: by what it answers -/
def bd {α β : Type} (o : Option (α × Hp)) (K : α → Hp → Option β) : Option β := match o with
  | some (x, h) => K x h
  | none => none
def isC (h : Hp) (a ci : Nat) : Bool := match h.2 a with
  | .inr (c, _) => c == ci
  | .inl _ => false
def cV {α β : Type} (h : Hp) (a ci : Nat) (o : Option (α × Hp)) (K : α → Hp → Option β) : Option β := if isC h a ci = true then bd o K else none
def cVv {β : Type} (h : Hp) (a ci : Nat) (o : Option Hp) (K : Hp → Option β) : Option β := if isC h a ci = true then o.bind K else none
theorem bd_some {α β : Type} {o : Option (α × Hp)} {K : α → Hp → Option β} {r : β} (H : bd o K = some r) : ∃ x h1, o = some (x, h1) ∧ K x h1 = some r := by
  unfold bd at H
  split at H
  · exact ⟨_, _, rfl, H⟩
  · cases H
theorem isC_some {a ci : Nat} (e : isC h a ci = true) : ∃ fs, h.2 a = .inr (ci, fs) := by
  unfold isC at e
  split at e
  · rename_i c fs hx
    exact ⟨fs, by rw [hx, eq_of_beq e]⟩
  · cases e
theorem cV_some {α β : Type} {a ci : Nat} {o : Option (α × Hp)} {K : α → Hp → Option β} {r : β} (H : cV h a ci o K = some r) : (∃ fs, h.2 a = .inr (ci, fs)) ∧ ∃ x h1, o = some (x, h1) ∧ K x h1 = some r := by
  unfold cV at H
  split at H
  · rename_i e; exact ⟨isC_some e, bd_some H⟩
  · cases H
theorem cVv_some {β : Type} {a ci : Nat} {o : Option Hp} {K : Hp → Option β} {r : β} (H : cVv h a ci o K = some r) : (∃ fs, h.2 a = .inr (ci, fs)) ∧ ∃ h1, o = some h1 ∧ K h1 = some r := by
  unfold cVv at H
  split at H
  · rename_i e; exact ⟨isC_some e, bi_some H⟩
  · cases H
theorem go_cVi {Mz : MD} {as stk : List Value} {a idx np ci : Nat} {β : Type} {o1 : Option (Int32 × Hp)} {K' : Int32 → Hp → Option β} {o : β} (hd : decode (mdB M) pc = .ok (.invokevirtual idx, 3)) (hl0 : Cond.methodLink (mdY M).cls idx (mdY Mz) ∈ TB) (hz : CVo Mz np ci) (hcon : ∀ {x h'}, o1 = some (x, h') → Con Mz (.ref a :: as) h (some (.int x)) h') (hst : as.reverse ++ .ref a :: st = stk) (hn : as.length = np) (hR : RM M Mz) (hW : (st.map fun v => v.category).sum ≤ 8) (h0 : mdC Mz = 0 ∧ mdS Mz = 0) (hk : k ≤ mdC M ∧ n ≤ mdS M) (H : cV h a ci o1 K' = some o) (K : ∀ x h', K' x h' = some o → Go P M (pc + 3) L (.int x :: st) h' k n) : Go P M pc L stk h k n := by
  obtain ⟨hc, x, h', e1, e2⟩ := cV_some H
  refine go_cV (r := some (.int x)) hd hl0 hz (hcon e1) hst hn hR hW hc (by rw [h0.1, h0.2]; exact hk) ?_
  rw [h0.1, h0.2]
  exact K x h' e2
theorem go_cSi {Mz : MD} {as stk : List Value} {idx np : Nat} {β : Type} {o1 : Option (Int32 × Hp)} {K' : Int32 → Hp → Option β} {o : β} (hd : decode (mdB M) pc = .ok (.invokestatic idx, 3)) (hl0 : Cond.methodLink (mdY M).cls idx (mdY Mz) ∈ TB) (hz : CSo Mz np) (hcon : ∀ {x h'}, o1 = some (x, h') → Con Mz as h (some (.int x)) h') (hst : as.reverse ++ st = stk) (hn : as.length = np) (hR : RM M Mz) (hW : (st.map fun v => v.category).sum ≤ 8) (h0 : mdC Mz = 0 ∧ mdS Mz = 0) (hk : k ≤ mdC M ∧ n ≤ mdS M) (H : bd o1 K' = some o) (K : ∀ x h', K' x h' = some o → Go P M (pc + 3) L (.int x :: st) h' k n) : Go P M pc L stk h k n := by
  obtain ⟨x, h', e1, e2⟩ := bd_some H
  refine go_cS (r := some (.int x)) hd hl0 hz (hcon e1) hst hn hR hW (by rw [h0.1, h0.2]; exact hk) ?_
  rw [h0.1, h0.2]
  exact K x h' e2
theorem go_cVl {Mz : MD} {as stk : List Value} {a idx np ci : Nat} {β : Type} {o1 : Option (Int64 × Hp)} {K' : Int64 → Hp → Option β} {o : β} (hd : decode (mdB M) pc = .ok (.invokevirtual idx, 3)) (hl0 : Cond.methodLink (mdY M).cls idx (mdY Mz) ∈ TB) (hz : CVo Mz np ci) (hcon : ∀ {x h'}, o1 = some (x, h') → Con Mz (.ref a :: as) h (some (.long x)) h') (hst : as.reverse ++ .ref a :: st = stk) (hn : as.length = np) (hR : RM M Mz) (hW : (st.map fun v => v.category).sum ≤ 8) (h0 : mdC Mz = 0 ∧ mdS Mz = 0) (hk : k ≤ mdC M ∧ n ≤ mdS M) (H : cV h a ci o1 K' = some o) (K : ∀ x h', K' x h' = some o → Go P M (pc + 3) L (.long x :: st) h' k n) : Go P M pc L stk h k n := by
  obtain ⟨hc, x, h', e1, e2⟩ := cV_some H
  refine go_cV (r := some (.long x)) hd hl0 hz (hcon e1) hst hn hR hW hc (by rw [h0.1, h0.2]; exact hk) ?_
  rw [h0.1, h0.2]
  exact K x h' e2
theorem go_cSl {Mz : MD} {as stk : List Value} {idx np : Nat} {β : Type} {o1 : Option (Int64 × Hp)} {K' : Int64 → Hp → Option β} {o : β} (hd : decode (mdB M) pc = .ok (.invokestatic idx, 3)) (hl0 : Cond.methodLink (mdY M).cls idx (mdY Mz) ∈ TB) (hz : CSo Mz np) (hcon : ∀ {x h'}, o1 = some (x, h') → Con Mz as h (some (.long x)) h') (hst : as.reverse ++ st = stk) (hn : as.length = np) (hR : RM M Mz) (hW : (st.map fun v => v.category).sum ≤ 8) (h0 : mdC Mz = 0 ∧ mdS Mz = 0) (hk : k ≤ mdC M ∧ n ≤ mdS M) (H : bd o1 K' = some o) (K : ∀ x h', K' x h' = some o → Go P M (pc + 3) L (.long x :: st) h' k n) : Go P M pc L stk h k n := by
  obtain ⟨x, h', e1, e2⟩ := bd_some H
  refine go_cS (r := some (.long x)) hd hl0 hz (hcon e1) hst hn hR hW (by rw [h0.1, h0.2]; exact hk) ?_
  rw [h0.1, h0.2]
  exact K x h' e2
theorem go_cVr {Mz : MD} {as stk : List Value} {a idx np ci : Nat} {β : Type} {o1 : Option (Nat × Hp)} {K' : Nat → Hp → Option β} {o : β} (hd : decode (mdB M) pc = .ok (.invokevirtual idx, 3)) (hl0 : Cond.methodLink (mdY M).cls idx (mdY Mz) ∈ TB) (hz : CVo Mz np ci) (hcon : ∀ {x h'}, o1 = some (x, h') → Con Mz (.ref a :: as) h (some (.ref x)) h') (hst : as.reverse ++ .ref a :: st = stk) (hn : as.length = np) (hR : RM M Mz) (hW : (st.map fun v => v.category).sum ≤ 8) (h0 : mdC Mz = 0 ∧ mdS Mz = 0) (hk : k ≤ mdC M ∧ n ≤ mdS M) (H : cV h a ci o1 K' = some o) (K : ∀ x h', K' x h' = some o → Go P M (pc + 3) L (.ref x :: st) h' k n) : Go P M pc L stk h k n := by
  obtain ⟨hc, x, h', e1, e2⟩ := cV_some H
  refine go_cV (r := some (.ref x)) hd hl0 hz (hcon e1) hst hn hR hW hc (by rw [h0.1, h0.2]; exact hk) ?_
  rw [h0.1, h0.2]
  exact K x h' e2
theorem go_cSr {Mz : MD} {as stk : List Value} {idx np : Nat} {β : Type} {o1 : Option (Nat × Hp)} {K' : Nat → Hp → Option β} {o : β} (hd : decode (mdB M) pc = .ok (.invokestatic idx, 3)) (hl0 : Cond.methodLink (mdY M).cls idx (mdY Mz) ∈ TB) (hz : CSo Mz np) (hcon : ∀ {x h'}, o1 = some (x, h') → Con Mz as h (some (.ref x)) h') (hst : as.reverse ++ st = stk) (hn : as.length = np) (hR : RM M Mz) (hW : (st.map fun v => v.category).sum ≤ 8) (h0 : mdC Mz = 0 ∧ mdS Mz = 0) (hk : k ≤ mdC M ∧ n ≤ mdS M) (H : bd o1 K' = some o) (K : ∀ x h', K' x h' = some o → Go P M (pc + 3) L (.ref x :: st) h' k n) : Go P M pc L stk h k n := by
  obtain ⟨x, h', e1, e2⟩ := bd_some H
  refine go_cS (r := some (.ref x)) hd hl0 hz (hcon e1) hst hn hR hW (by rw [h0.1, h0.2]; exact hk) ?_
  rw [h0.1, h0.2]
  exact K x h' e2
theorem go_cVq {Mz : MD} {as stk : List Value} {a idx np ci : Nat} {β : Type} {o1 : Option (Option Nat × Hp)} {K' : Option Nat → Hp → Option β} {o : β} (hd : decode (mdB M) pc = .ok (.invokevirtual idx, 3)) (hl0 : Cond.methodLink (mdY M).cls idx (mdY Mz) ∈ TB) (hz : CVo Mz np ci) (hcon : ∀ {x h'}, o1 = some (x, h') → Con Mz (.ref a :: as) h (some (orf x)) h') (hst : as.reverse ++ .ref a :: st = stk) (hn : as.length = np) (hR : RM M Mz) (hW : (st.map fun v => v.category).sum ≤ 8) (h0 : mdC Mz = 0 ∧ mdS Mz = 0) (hk : k ≤ mdC M ∧ n ≤ mdS M) (H : cV h a ci o1 K' = some o) (K : ∀ x h', K' x h' = some o → Go P M (pc + 3) L (orf x :: st) h' k n) : Go P M pc L stk h k n := by
  obtain ⟨hc, x, h', e1, e2⟩ := cV_some H
  refine go_cV (r := some (orf x)) hd hl0 hz (hcon e1) hst hn hR hW hc (by rw [h0.1, h0.2]; exact hk) ?_
  rw [h0.1, h0.2]
  exact K x h' e2
theorem go_cSq {Mz : MD} {as stk : List Value} {idx np : Nat} {β : Type} {o1 : Option (Option Nat × Hp)} {K' : Option Nat → Hp → Option β} {o : β} (hd : decode (mdB M) pc = .ok (.invokestatic idx, 3)) (hl0 : Cond.methodLink (mdY M).cls idx (mdY Mz) ∈ TB) (hz : CSo Mz np) (hcon : ∀ {x h'}, o1 = some (x, h') → Con Mz as h (some (orf x)) h') (hst : as.reverse ++ st = stk) (hn : as.length = np) (hR : RM M Mz) (hW : (st.map fun v => v.category).sum ≤ 8) (h0 : mdC Mz = 0 ∧ mdS Mz = 0) (hk : k ≤ mdC M ∧ n ≤ mdS M) (H : bd o1 K' = some o) (K : ∀ x h', K' x h' = some o → Go P M (pc + 3) L (orf x :: st) h' k n) : Go P M pc L stk h k n := by
  obtain ⟨x, h', e1, e2⟩ := bd_some H
  refine go_cS (r := some (orf x)) hd hl0 hz (hcon e1) hst hn hR hW (by rw [h0.1, h0.2]; exact hk) ?_
  rw [h0.1, h0.2]
  exact K x h' e2
theorem go_cVv {Mz : MD} {as stk : List Value} {a idx np ci : Nat} {β : Type} {o1 : Option Hp} {K' : Hp → Option β} {o : β} (hd : decode (mdB M) pc = .ok (.invokevirtual idx, 3)) (hl0 : Cond.methodLink (mdY M).cls idx (mdY Mz) ∈ TB) (hz : CVo Mz np ci) (hcon : ∀ {h'}, o1 = some h' → Con Mz (.ref a :: as) h none h') (hst : as.reverse ++ .ref a :: st = stk) (hn : as.length = np) (hR : RM M Mz) (hW : (st.map fun v => v.category).sum ≤ 8) (h0 : mdC Mz = 0 ∧ mdS Mz = 0) (hk : k ≤ mdC M ∧ n ≤ mdS M) (H : cVv h a ci o1 K' = some o) (K : ∀ h', K' h' = some o → Go P M (pc + 3) L st h' k n) : Go P M pc L stk h k n := by
  obtain ⟨hc, h', e1, e2⟩ := cVv_some H
  refine go_cV (r := none) hd hl0 hz (hcon e1) hst hn hR hW hc (by rw [h0.1, h0.2]; exact hk) ?_
  rw [h0.1, h0.2]
  exact K h' e2
theorem go_cSv {Mz : MD} {as stk : List Value} {idx np : Nat} {β : Type} {o1 : Option Hp} {K' : Hp → Option β} {o : β} (hd : decode (mdB M) pc = .ok (.invokestatic idx, 3)) (hl0 : Cond.methodLink (mdY M).cls idx (mdY Mz) ∈ TB) (hz : CSo Mz np) (hcon : ∀ {h'}, o1 = some h' → Con Mz as h none h') (hst : as.reverse ++ st = stk) (hn : as.length = np) (hR : RM M Mz) (hW : (st.map fun v => v.category).sum ≤ 8) (h0 : mdC Mz = 0 ∧ mdS Mz = 0) (hk : k ≤ mdC M ∧ n ≤ mdS M) (H : o1.bind K' = some o) (K : ∀ h', K' h' = some o → Go P M (pc + 3) L st h' k n) : Go P M pc L stk h k n := by
  obtain ⟨h', e1, e2⟩ := bi_some H
  refine go_cS (r := none) hd hl0 hz (hcon e1) hst hn hR hW (by rw [h0.1, h0.2]; exact hk) ?_
  rw [h0.1, h0.2]
  exact K h' e2
/-- constructors: they make cells -/
theorem go_cIv {Mz : MD} {as stk : List Value} {a idx np : Nat} {β : Type} {o1 : Option Hp} {K' : Hp → Option β} {o : β} (hd : decode (mdB M) pc = .ok (.invokespecial idx, 3)) (hl0 : Cond.methodLink (mdY M).cls idx (mdY Mz) ∈ TB) (hz : CIo Mz np) (hcon : ∀ {h'}, o1 = some h' → Con Mz (.ref a :: as) h none h') (hst : as.reverse ++ .ref a :: st = stk) (hn : as.length = np) (hR : RM M Mz) (hW : (st.map fun v => v.category).sum ≤ 8) (hk : k + mdC Mz ≤ mdC M ∧ n + mdS Mz ≤ mdS M) (H : o1.bind K' = some o) (K : ∀ h', K' h' = some o → Go P M (pc + 3) L st h' (k + mdC Mz) (n + mdS Mz)) : Go P M pc L stk h k n := by
  obtain ⟨h', e1, e2⟩ := bi_some H
  exact go_cI (r := none) hd hl0 hz (hcon e1) hst hn hR hW hk (K h' e2)
theorem go_cINv {Mz : MD} {as stk : List Value} {a idx np : Nat} {host : String} {β : Type} {o1 : Option Hp} {K' : Hp → Option β} {o : β} (hd : decode (mdB M) pc = .ok (.invokespecial idx, 3)) (hl0 : ((mdY M).cls, idx, mdY Mz, host) ∈ nestL) (hz : CIo Mz np) (hcon : ∀ {h'}, o1 = some h' → Con Mz (.ref a :: as) h none h') (hst : as.reverse ++ .ref a :: st = stk) (hn : as.length = np) (hR : RM M Mz) (hW : (st.map fun v => v.category).sum ≤ 8) (hk : k + mdC Mz ≤ mdC M ∧ n + mdS Mz ≤ mdS M) (H : o1.bind K' = some o) (K : ∀ h', K' h' = some o → Go P M (pc + 3) L st h' (k + mdC Mz) (n + mdS Mz)) : Go P M pc L stk h k n := by
  obtain ⟨h', e1, e2⟩ := bi_some H
  exact go_cIN (r := none) hd hl0 hz (hcon e1) hst hn hR hW hk (K h' e2)
end R
