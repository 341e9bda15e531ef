/-! arrays, new cells, calls, ends -/
section R
variable {P : PT} {M : MD} {pc : Nat} {L : List (Option Value)} {st : List Value} {h : Hp} {k n : Nat}
theorem aI_some {h : Hp} {a : Nat} {i : Int32} {x : Int32} (e : aI h a i = some x) : ∃ (N : Nat) (f : Nat → Int32), h.2 a = .inl (1, N, .inl f) ∧ vp_in i N ∧ x = f i.toNatClampNeg := by
  unfold aI at e
  split at e
  · rename_i N f hx
    split at e
    · cases e
    · rename_i hc
      exact ⟨N, f, hx, hc, (Option.some.inj e).symm⟩
  · cases e
theorem go_iaload {a : Nat} {i : Int32} {β : Type} {K' : Int32 → Option β} {o : β} (hd : decode (mdB M) pc = .ok (.iaload, 1)) (H : (aI h a i).bind K' = some o) (K : ∀ x, K' x = some o → Go P M (pc + 1) L (.int x :: st) h k n) : Go P M pc L (.int i :: .ref a :: st) h k n := by
  intro p l e s m args below meth c D ks sp ad0 n0 A Q hP hC ad H1 locs ls hp hl hL hs
  obtain ⟨x, e1, e2⟩ := bi_some H
  obtain ⟨N, f, e3, e4, rfl⟩ := aI_some e1
  have ha : a < h.1 := hs.2.1
  exact va_iald hC.1 hC.2.1 hC.2.2.2.2.2.2.1 hp.1 a 1 (by rw [wsO_get ha, e3]; rfl) rfl e4 hd (K _ e2 p l e s m args below meth c D ks sp ad0 n0 A Q hP hC ad H1 locs ls hp hl hL ⟨trivial, hs.2.2⟩)
theorem aB_some {h : Hp} {a : Nat} {i : Int32} {x : Int32} (e : aB h a i = some x) : ∃ (N : Nat) (f : Nat → Int32), h.2 a = .inl (0, N, .inl f) ∧ vp_in i N ∧ x = f i.toNatClampNeg := by
  unfold aB at e
  split at e
  · rename_i N f hx
    split at e
    · cases e
    · rename_i hc
      exact ⟨N, f, hx, hc, (Option.some.inj e).symm⟩
  · cases e
theorem go_baload {a : Nat} {i : Int32} {β : Type} {K' : Int32 → Option β} {o : β} (hd : decode (mdB M) pc = .ok (.baload, 1)) (H : (aB h a i).bind K' = some o) (K : ∀ x, K' x = some o → Go P M (pc + 1) L (.int x :: st) h k n) : Go P M pc L (.int i :: .ref a :: st) h k n := by
  intro p l e s m args below meth c D ks sp ad0 n0 A Q hP hC ad H1 locs ls hp hl hL hs
  obtain ⟨x, e1, e2⟩ := bi_some H
  obtain ⟨N, f, e3, e4, rfl⟩ := aB_some e1
  have ha : a < h.1 := hs.2.1
  exact va_bald hC.1 hC.2.1 hC.2.2.2.2.2.2.1 hp.1 a 0 (by rw [wsO_get ha, e3]; rfl) rfl e4 hd (K _ e2 p l e s m args below meth c D ks sp ad0 n0 A Q hP hC ad H1 locs ls hp hl hL ⟨trivial, hs.2.2⟩)
theorem aJ_some {h : Hp} {a : Nat} {i : Int32} {x : Int64} (e : aJ h a i = some x) : ∃ (N : Nat) (f : Nat → Int64), h.2 a = .inl (2, N, .inr (.inl f)) ∧ vp_in i N ∧ x = f i.toNatClampNeg := by
  unfold aJ at e
  split at e
  · rename_i N f hx
    split at e
    · cases e
    · rename_i hc
      exact ⟨N, f, hx, hc, (Option.some.inj e).symm⟩
  · cases e
theorem go_laload {a : Nat} {i : Int32} {β : Type} {K' : Int64 → Option β} {o : β} (hd : decode (mdB M) pc = .ok (.laload, 1)) (H : (aJ h a i).bind K' = some o) (K : ∀ x, K' x = some o → Go P M (pc + 1) L (.long x :: st) h k n) : Go P M pc L (.int i :: .ref a :: st) h k n := by
  intro p l e s m args below meth c D ks sp ad0 n0 A Q hP hC ad H1 locs ls hp hl hL hs
  obtain ⟨x, e1, e2⟩ := bi_some H
  obtain ⟨N, f, e3, e4, rfl⟩ := aJ_some e1
  have ha : a < h.1 := hs.2.1
  exact va_lald hC.1 hC.2.1 hC.2.2.2.2.2.2.1 hp.1 a 2 (by rw [wsO_get ha, e3]; rfl) rfl e4 hd (K _ e2 p l e s m args below meth c D ks sp ad0 n0 A Q hP hC ad H1 locs ls hp hl hL ⟨trivial, hs.2.2⟩)
theorem sI_some {h h1 : Hp} {a : Nat} {i : Int32} {x : Int32} (e : sI h a i x = some h1) : ∃ (N : Nat) (f : Nat → Int32), h.2 a = .inl (1, N, .inl f) ∧ vp_in i N ∧ h1 = (h.1, va_up h.2 a (.inl (1, N, .inl (upd f i.toNatClampNeg x)))) := by
  unfold sI at e
  split at e
  · rename_i N f hx
    split at e
    · cases e
    · rename_i hc
      exact ⟨N, f, hx, hc, (Option.some.inj e).symm⟩
  · cases e
theorem go_iastore {a : Nat} {i : Int32} {x : Int32} {β : Type} {K' : Hp → Option β} {o : β} (hd : decode (mdB M) pc = .ok (.iastore, 1)) (H : (sI h a i x).bind K' = some o) (K : ∀ h1, K' h1 = some o → Go P M (pc + 1) L st h1 k n) : Go P M pc L (.int x :: .int i :: .ref a :: st) h k n := by
  intro p l e s m args below meth c D ks sp ad0 n0 A Q hP hC ad H1 locs ls hp hl hL hs
  obtain ⟨h1, e1, e2⟩ := bi_some H
  obtain ⟨N, f, e3, e4, rfl⟩ := sI_some e1
  have ha : a < h.1 := hs.2.2.1
  refine va_iast hC.1 hC.2.1 hC.2.2.2.2.2.2.1 hp.1 hp.2.1 hp.2.2.1 a 1 (by rw [wsO_get ha, e3]; rfl) rfl e4 hd (fun H2 locs2 g1 g2 g3 => ?_)
  have e5 : (wsO ks sp ad h).set a (ad a, .inl (ks 1, N, .inl (upd f i.toNatClampNeg x))) = wsO ks sp ad (h.1, va_up h.2 a (.inl (1, N, .inl (upd f i.toNatClampNeg x)))) := by rw [← wsO_set _ ha]; rfl
  rw [e5] at g1 g2
  exact K _ e2 p l e s m args below meth c D ks sp ad0 n0 A Q hP hC ad H2 locs2 ls ⟨g1, g2, g3, wfh_set hp.2.2.2.1 trivial, hp.2.2.2.2⟩ hl hL hs.2.2.2
theorem sB_some {h h1 : Hp} {a : Nat} {i : Int32} {x : Int32} (e : sB h a i x = some h1) : ∃ (N : Nat) (f : Nat → Int32), h.2 a = .inl (0, N, .inl f) ∧ vp_in i N ∧ h1 = (h.1, va_up h.2 a (.inl (0, N, .inl (upd f i.toNatClampNeg (vp_nar .byte x))))) := by
  unfold sB at e
  split at e
  · rename_i N f hx
    split at e
    · cases e
    · rename_i hc
      exact ⟨N, f, hx, hc, (Option.some.inj e).symm⟩
  · cases e
theorem go_bastore {a : Nat} {i : Int32} {x : Int32} {β : Type} {K' : Hp → Option β} {o : β} (hd : decode (mdB M) pc = .ok (.bastore, 1)) (H : (sB h a i x).bind K' = some o) (K : ∀ h1, K' h1 = some o → Go P M (pc + 1) L st h1 k n) : Go P M pc L (.int x :: .int i :: .ref a :: st) h k n := by
  intro p l e s m args below meth c D ks sp ad0 n0 A Q hP hC ad H1 locs ls hp hl hL hs
  obtain ⟨h1, e1, e2⟩ := bi_some H
  obtain ⟨N, f, e3, e4, rfl⟩ := sB_some e1
  have ha : a < h.1 := hs.2.2.1
  refine va_bast hC.1 hC.2.1 hC.2.2.2.2.2.2.1 hp.1 hp.2.1 hp.2.2.1 a 0 (by rw [wsO_get ha, e3]; rfl) rfl e4 hd (fun H2 locs2 g1 g2 g3 => ?_)
  have e5 : (wsO ks sp ad h).set a (ad a, .inl (ks 0, N, .inl (upd f i.toNatClampNeg (vp_nar .byte x)))) = wsO ks sp ad (h.1, va_up h.2 a (.inl (0, N, .inl (upd f i.toNatClampNeg (vp_nar .byte x))))) := by rw [← wsO_set _ ha]; rfl
  rw [e5] at g1 g2
  exact K _ e2 p l e s m args below meth c D ks sp ad0 n0 A Q hP hC ad H2 locs2 ls ⟨g1, g2, g3, wfh_set hp.2.2.2.1 trivial, hp.2.2.2.2⟩ hl hL hs.2.2.2
theorem sJ_some {h h1 : Hp} {a : Nat} {i : Int32} {x : Int64} (e : sJ h a i x = some h1) : ∃ (N : Nat) (f : Nat → Int64), h.2 a = .inl (2, N, .inr (.inl f)) ∧ vp_in i N ∧ h1 = (h.1, va_up h.2 a (.inl (2, N, .inr (.inl (vp_updL f i.toNatClampNeg x))))) := by
  unfold sJ at e
  split at e
  · rename_i N f hx
    split at e
    · cases e
    · rename_i hc
      exact ⟨N, f, hx, hc, (Option.some.inj e).symm⟩
  · cases e
theorem go_lastore {a : Nat} {i : Int32} {x : Int64} {β : Type} {K' : Hp → Option β} {o : β} (hd : decode (mdB M) pc = .ok (.lastore, 1)) (H : (sJ h a i x).bind K' = some o) (K : ∀ h1, K' h1 = some o → Go P M (pc + 1) L st h1 k n) : Go P M pc L (.long x :: .int i :: .ref a :: st) h k n := by
  intro p l e s m args below meth c D ks sp ad0 n0 A Q hP hC ad H1 locs ls hp hl hL hs
  obtain ⟨h1, e1, e2⟩ := bi_some H
  obtain ⟨N, f, e3, e4, rfl⟩ := sJ_some e1
  have ha : a < h.1 := hs.2.2.1
  refine va_last hC.1 hC.2.1 hC.2.2.2.2.2.2.1 hp.1 hp.2.1 hp.2.2.1 a 2 (by rw [wsO_get ha, e3]; rfl) rfl e4 hd (fun H2 locs2 g1 g2 g3 => ?_)
  have e5 : (wsO ks sp ad h).set a (ad a, .inl (ks 2, N, .inr (.inl (vp_updL f i.toNatClampNeg x)))) = wsO ks sp ad (h.1, va_up h.2 a (.inl (2, N, .inr (.inl (vp_updL f i.toNatClampNeg x))))) := by rw [← wsO_set _ ha]; rfl
  rw [e5] at g1 g2
  exact K _ e2 p l e s m args below meth c D ks sp ad0 n0 A Q hP hC ad H2 locs2 ls ⟨g1, g2, g3, wfh_set hp.2.2.2.1 trivial, hp.2.2.2.2⟩ hl hL hs.2.2.2
theorem aR_some {h : Hp} {a : Nat} {i : Int32} {x : Nat} (e : aR h a i = some x) : ∃ (N : Nat) (f : Nat → Option Nat), h.2 a = .inl (3, N, .inr (.inr (.inr (.inr f)))) ∧ vp_in i N ∧ f i.toNatClampNeg = some x := by
  unfold aR at e
  split at e
  · rename_i N f hx
    split at e
    · cases e
    · rename_i hc
      exact ⟨N, f, hx, hc, e⟩
  · cases e
theorem go_aaload {a : Nat} {i : Int32} {β : Type} {K' : Nat → Option β} {o : β} (hd : decode (mdB M) pc = .ok (.aaload, 1)) (H : (aR h a i).bind K' = some o) (K : ∀ x, K' x = some o → Go P M (pc + 1) L (.ref x :: st) h k n) : Go P M pc L (.int i :: .ref a :: st) h k n := by
  intro p l e s m args below meth c D ks sp ad0 n0 A Q hP hC ad H1 locs ls hp hl hL hs
  obtain ⟨x, e1, e2⟩ := bi_some H
  obtain ⟨N, f, e3, e4, e5⟩ := aR_some e1
  have ha : a < h.1 := hs.2.1
  have hw := hp.2.2.2.1 a ha
  rw [e3] at hw
  have kk := K _ e2 p l e s m args below meth c D ks sp ad0 n0 A Q hP hC ad H1 locs ls hp hl hL ⟨hw _ _ e5, hs.2.2⟩
  refine va_aldq (C := "GlassWatch$Keeping") (f := fun j => (f j).map ad) hC.1 hC.2.1 hC.2.2.2.2.2.2.1 hp.1 a 3 (by rw [wsO_get ha, e3]; rfl) rfl e4 hd ?_
  rw [e5]
  exact kk
theorem sR_some {h h1 : Hp} {a x : Nat} {i : Int32} (e : sR h a i x = some h1) : ∃ (N : Nat) (f : Nat → Option Nat) (fs : List Value), h.2 a = .inl (3, N, .inr (.inr (.inr (.inr f)))) ∧ h.2 x = .inr (4, fs) ∧ vp_in i N ∧ h1 = (h.1, va_up h.2 a (.inl (3, N, .inr (.inr (.inr (.inr (va_up f i.toNatClampNeg (some x)))))))) := by
  unfold sR at e
  split at e
  · rename_i N f fs hx hy
    split at e
    · cases e
    · rename_i hc
      exact ⟨N, f, fs, hx, hy, hc, (Option.some.inj e).symm⟩
  · cases e
theorem go_aastore {a x : Nat} {i : Int32} {β : Type} {K' : Hp → Option β} {o : β} (hd : decode (mdB M) pc = .ok (.aastore, 1)) (H : (sR h a i x).bind K' = some o) (K : ∀ h1, K' h1 = some o → Go P M (pc + 1) L st h1 k n) : Go P M pc L (.ref x :: .int i :: .ref a :: st) h k n := by
  intro p l e s m args below meth c D ks sp ad0 n0 A Q hP hC ad H1 locs ls hp hl hL hs
  obtain ⟨h1, e1, e2⟩ := bi_some H
  obtain ⟨N, f, fs, e3, e6, e4, rfl⟩ := sR_some e1
  have ha : a < h.1 := hs.2.2.1
  have hx : x < h.1 := hs.1
  have hw := hp.2.2.2.1 a ha
  rw [e3] at hw
  refine va_astq (r := (RX4, TX4, 3)) (f := fun j => (f j).map ad) (v := ad x) hC.1 hC.2.1 hC.2.2.2.2.2.2.1 hp.1 hp.2.1 hp.2.2.1 a 3 x 4 (by rw [wsO_get ha, e3]; rfl) rfl (by rw [wsO_get hx, e6]; rfl) rfl e4 hd (fun H2 locs2 g1 g2 g3 => ?_)
  have e7 : va_up (fun j => (f j).map ad) i.toNatClampNeg (some (ad x)) = fun j => ((va_up f i.toNatClampNeg (some x)) j).map ad := by
    funext j
    by_cases q : j = i.toNatClampNeg <;> simp [va_up, q]
  have e5 : (wsO ks sp ad h).set a (ad a, .inl (ks 3, N, .inr (.inr (.inr (.inr (va_up (fun j => (f j).map ad) i.toNatClampNeg (some (ad x)))))))) = wsO ks sp ad (h.1, va_up h.2 a (.inl (3, N, .inr (.inr (.inr (.inr (va_up f i.toNatClampNeg (some x)))))))) := by rw [← wsO_set _ ha, e7]; rfl
  rw [e5] at g1 g2
  refine K _ e2 p l e s m args below meth c D ks sp ad0 n0 A Q hP hC ad H2 locs2 ls ⟨g1, g2, g3, wfh_set hp.2.2.2.1 ?_, hp.2.2.2.2⟩ hl hL hs.2.2.2
  intro j b hj
  by_cases q : j = i.toNatClampNeg
  · simp only [va_up, if_pos q] at hj; cases hj; exact hx
  · simp only [va_up, if_neg q] at hj; exact hw j b hj
theorem go_alen {a : Nat} {β : Type} {K' : Int32 → Option β} {o : β} (hd : decode (mdB M) pc = .ok (.arraylength, 1)) (H : (aN h a).bind K' = some o) (K : ∀ x, K' x = some o → Go P M (pc + 1) L (.int x :: st) h k n) : Go P M pc L (.ref a :: st) h k n := by
  intro p l e s m args below meth c D ks sp ad0 n0 A Q hP hC ad H1 locs ls hp hl hL hs
  obtain ⟨x, e1, e2⟩ := bi_some H
  have ha : a < h.1 := hs.1
  have kk := K _ e2 p l e s m args below meth c D ks sp ad0 n0 A Q hP hC ad H1 locs ls hp hl hL ⟨trivial, hs.2⟩
  unfold aN at e1
  split at e1
  · rename_i N f e3
    cases e1
    exact va_alen (x := (N, .inl f)) (ty := .byte) hC.1 hC.2.1 hC.2.2.2.2.2.2.1 hp.1 a 0 (by rw [wsO_get ha, e3]; rfl) rfl rfl hd kk
  · rename_i N f e3
    cases e1
    exact va_alen (x := (N, .inl f)) (ty := .int) hC.1 hC.2.1 hC.2.2.2.2.2.2.1 hp.1 a 1 (by rw [wsO_get ha, e3]; rfl) rfl rfl hd kk
  · rename_i N f e3
    cases e1
    exact va_alen (x := (N, .inr (.inl f))) (ty := .long) hC.1 hC.2.1 hC.2.2.2.2.2.2.1 hp.1 a 2 (by rw [wsO_get ha, e3]; rfl) rfl rfl hd kk
  · rename_i N f e3
    cases e1
    exact va_alen (x := (N, .inr (.inr (.inr (.inr (fun j => (f j).map ad)))))) (ty := .object "GlassWatch$Keeping") hC.1 hC.2.1 hC.2.2.2.2.2.2.1 hp.1 a 3 (by rw [wsO_get ha, e3]; rfl) rfl rfl hd kk
  · cases e1
/-- a new cell: the heap has one more -/
def nw (h : Hp) (e : va_E) : Hp := (h.1 + 1, va_up h.2 h.1 e)
theorem wfh_nw {h : Hp} {e : va_E} (hw : wfh h) (he : wfe (h.1 + 1) e) : wfh (nw h e) := fun i hi => by
  show wfe (h.1 + 1) (va_up h.2 h.1 e i)
  by_cases q : i = h.1
  · rw [q]; simp only [va_up, if_true]; exact he
  · simp only [va_up, if_neg q]; exact wfe_up (Nat.le_succ _) (hw i (by have : i < h.1 + 1 := hi; omega))
/-- behind a new cell -/
theorem go_born {p : Program} {l : Launch} {e : Env} {s : State} {m : MethodId} {args : Array Value} {below : List Frame} {meth : Method} {c : Code} {D : va_G} {ks sp ad0 : Nat → Nat} {n0 : Nat} {A : Nat → Prop} {Q : State → Prop} {ad : Nat → Nat} {H H1 : Heap} {locs : List Loc} {ls : Array Slot} {pc' : Nat} {q : Nat} {E : va_E} {k' n' : Nat}
    (hP : P p l e s m args below meth c D ks sp ad0 n0 A Q) (hC : Cx M p s m args meth c D ks sp A) (hp : Pi D ks sp ad0 n0 A s ad h H locs) (hl : lv_has ls (mdL M) (prs sp ad 0 L)) (hL : wfL h.1 L) (hs : wfs h.1 st) (hE : wfe h.1 E)
    (g1 : va_P D vwCl (wsO ks sp ad h ++ [(q, te ks sp ad E)]) H1) (g2 : va_D A (wsO ks sp ad h ++ [(q, te ks sp ad E)])) (g3 : va_S A s.heap H1 locs) (K : Go P M pc' L (.ref h.1 :: st) (nw h E) k' n') :
    W p l e (mdRoom M) s m args below meth c H1 locs k' n' Q (F0 m pc' ls (.ref q :: st.map (tv sp ad))) := by
  have ha : ∀ i, i < h.1 → (va_up ad h.1 q) i = ad i := fun i hi => by simp [va_up]; omega
  have e1 := wsO_push (ks := ks) (sp := sp) (ad := ad) (h := h) E q hp.2.2.2.1 (te_ad ha hE)
  rw [← e1] at g1 g2
  have kk := K p l e s m args below meth c D ks sp ad0 n0 A Q hP hC (va_up ad h.1 q) H1 locs ls ⟨g1, g2, g3, wfh_nw hp.2.2.2.1 (wfe_up (Nat.le_succ _) hE), Nat.le_trans hp.2.2.2.2.1 (Nat.le_succ _), fun i hi => (ha i (Nat.lt_of_lt_of_le hi hp.2.2.2.2.1)).trans (hp.2.2.2.2.2 i hi)⟩ (by rw [prs_ad ha 0 hL]; exact hl) (wfL_up (Nat.le_succ _) hL) ⟨Nat.lt_succ_self _, wfs_up (Nat.le_succ _) hs⟩
  rw [List.map_cons, tvs_ad ha hs] at kk
  have e2 : tv sp (va_up ad h.1 q) (.ref h.1) = .ref q := by simp [tv, va_up]
  rw [e2] at kk
  exact kk
/-- a class's words for new: its number ci, its slots N, what its fields are at first -/
def pln (v : Value) : Bool := match v with
  | .ref _ => false
  | .retAddr _ => false
  | _ => true
theorem pln_tv {fs : List Value} (hf : fs.all pln = true) (sp ad : Nat → Nat) : fs.map (tv sp ad) = fs := by
  conv => rhs; rw [← List.map_id fs]
  apply List.map_congr_left
  intro v hv
  have := List.all_eq_true.mp hf v hv
  cases v <;> first | rfl | cases this
theorem pln_wf {fs : List Value} (hf : fs.all pln = true) (n ci : Nat) : wfe n (.inr (ci, fs)) := by
  intro k v hk
  have := List.all_eq_true.mp hf v (List.mem_of_getElem? hk)
  cases v <;> first | trivial | cases this
def NL (own : String) (idx ci N : Nat) (fs : List Value) : Prop := ∃ (C : String) (T : u_T) (t0 : Nat → FieldType), vwCl[ci]? = some (C, T, N) ∧ (∀ w ∈ u_ws C T N, w ∈ TB) ∧ (∀ k, k < N → parseFieldDescriptor (T k).2.2.1 = some (t0 k)) ∧ Cond.classLink own idx C ∈ TB ∧ Cond.instantiable C N ∈ TB ∧ Cond.initialized C ∈ TB ∧ (∀ j, j < N → defaultValue (t0 j) = vp_V fs j) ∧ fs.all pln = true
theorem go_new {idx ci N : Nat} {fs : List Value} (hd : decode (mdB M) pc = .ok (.new idx, 3)) (lk : NL (mdY M).cls idx ci N fs) (hc1 : k + 1 ≤ mdC M) (hc2 : n + N ≤ mdS M) (K : Go P M (pc + 3) L (.ref h.1 :: st) (nw h (.inr (ci, fs))) (k + 1) (n + N)) : Go P M pc L st h k n := by
  intro p l e s m args below meth c D ks sp ad0 n0 A Q hP hC ad H1 locs ls hp hl hL hs
  obtain ⟨C, T, t0, q1, q2, q3, q4, q5, q6, q7, q8⟩ := lk
  refine va_new (ci := ci) (fs := fs) hC.1 hC.2.1 hC.2.2.2.2.2.1 q2 t0 q3 hC.2.2.2.2.1 (hC.2.2.2.2.2.1 _ q4) (hC.2.2.2.2.2.1 _ q5) (hC.2.2.2.2.2.1 _ q6) hC.2.2.2.2.2.2.1 hp.1 hp.2.1 hp.2.2.1 hC.2.2.2.2.2.2.2.1 q1 q7 hc1 hc2 hd (fun q H2 g1 g2 g3 => ?_)
  have e0 : (.inr (ci, fs) : va_E) = te ks sp ad (.inr (ci, fs)) := by simp only [te, pln_tv q8]
  rw [e0] at g1 g2
  exact go_born hP hC hp hl hL hs (pln_wf q8 _ _) g1 g2 g3 K
theorem va_ks {s : State} {D : va_G} {ks : Nat → Nat} {cA : ClassId} {t : Nat} {ty : FieldType} (hK : va_K D vwCl (tysO ks ++ [(cA, ty)]) s) (ht : (tysO ks)[t]? = some (ks t, ty)) : cA = ks t := by
  have h1 := (hK.2 t (ks t, ty) (by rw [List.getElem?_append_left (List.getElem?_eq_some_iff.mp ht).1]; exact ht)).2
  have h2 := (hK.2 4 (cA, ty) rfl).2
  cases ty with
  | object C =>
    obtain ⟨_, _, -, -, -, z1⟩ := h1
    obtain ⟨_, _, -, -, -, z2⟩ := h2
    exact Option.some.inj (z2.symm.trans z1)
  | _ => exact Option.some.inj (h2.symm.trans h1)
theorem go_newI {x : Int32} {N : Nat} {β : Type} {K' : Option β} {o : β} (hd : decode (mdB M) pc = .ok (.newarray .int, 2)) (hw : Cond.arrayClass (newarray.typeOf .int) ∈ TB) (H : (if x < 0 ∨ x.toNatClampNeg ≠ N then none else K') = some o) (hb : N * 8 ≤ 536870912) (hc1 : k + 1 ≤ mdC M) (hc2 : n + N ≤ mdS M) (K : K' = some o → Go P M (pc + 2) L (.ref h.1 :: st) (nw h (.inl (1, N, .inl (fun _ => 0)))) (k + 1) (n + N)) : Go P M pc L (.int x :: st) h k n := by
  intro p l e s m args below meth c D ks sp ad0 n0 A Q hP hC ad H1 locs ls hp hl hL hs
  split at H
  · cases H
  · rename_i hx
    have hx1 : ¬ x < 0 := fun q => hx (Or.inl q)
    have hx2 : x.toNatClampNeg = N := Classical.not_not.mp (fun q => hx (Or.inr q))
    refine va_newa (ty := .int) (a0 := (N, .inl (fun _ => 0))) hC.1 hC.2.1 (hC.2.2.2.2.2.1 _ hw) rfl hC.2.2.2.2.2.2.1 hp.1 hp.2.1 hp.2.2.1 hC.2.2.2.2.2.2.2.1 (fun _ => rfl) hx1 hx2 (by show N * 4 ≤ 536870912; omega) hc1 hc2 hd (fun q cA H2 g0 g1 g2 g3 => ?_)
    rw [va_ks (t := 1) g0 rfl] at g1 g2
    exact go_born (E := .inl (1, N, .inl (fun _ => 0))) hP hC hp hl hL hs.2 trivial g1 g2 g3 (K H)
theorem go_newB {x : Int32} {N : Nat} {β : Type} {K' : Option β} {o : β} (hd : decode (mdB M) pc = .ok (.newarray .byte, 2)) (hw : Cond.arrayClass (newarray.typeOf .byte) ∈ TB) (H : (if x < 0 ∨ x.toNatClampNeg ≠ N then none else K') = some o) (hb : N * 8 ≤ 536870912) (hc1 : k + 1 ≤ mdC M) (hc2 : n + N ≤ mdS M) (K : K' = some o → Go P M (pc + 2) L (.ref h.1 :: st) (nw h (.inl (0, N, .inl (fun _ => 0)))) (k + 1) (n + N)) : Go P M pc L (.int x :: st) h k n := by
  intro p l e s m args below meth c D ks sp ad0 n0 A Q hP hC ad H1 locs ls hp hl hL hs
  split at H
  · cases H
  · rename_i hx
    have hx1 : ¬ x < 0 := fun q => hx (Or.inl q)
    have hx2 : x.toNatClampNeg = N := Classical.not_not.mp (fun q => hx (Or.inr q))
    refine va_newa (ty := .byte) (a0 := (N, .inl (fun _ => 0))) hC.1 hC.2.1 (hC.2.2.2.2.2.1 _ hw) rfl hC.2.2.2.2.2.2.1 hp.1 hp.2.1 hp.2.2.1 hC.2.2.2.2.2.2.2.1 (fun _ => rfl) hx1 hx2 (by show N * 1 ≤ 536870912; omega) hc1 hc2 hd (fun q cA H2 g0 g1 g2 g3 => ?_)
    rw [va_ks (t := 0) g0 rfl] at g1 g2
    exact go_born (E := .inl (0, N, .inl (fun _ => 0))) hP hC hp hl hL hs.2 trivial g1 g2 g3 (K H)
theorem go_newJ {x : Int32} {N : Nat} {β : Type} {K' : Option β} {o : β} (hd : decode (mdB M) pc = .ok (.newarray .long, 2)) (hw : Cond.arrayClass (newarray.typeOf .long) ∈ TB) (H : (if x < 0 ∨ x.toNatClampNeg ≠ N then none else K') = some o) (hb : N * 8 ≤ 536870912) (hc1 : k + 1 ≤ mdC M) (hc2 : n + N ≤ mdS M) (K : K' = some o → Go P M (pc + 2) L (.ref h.1 :: st) (nw h (.inl (2, N, .inr (.inl (fun _ => 0))))) (k + 1) (n + N)) : Go P M pc L (.int x :: st) h k n := by
  intro p l e s m args below meth c D ks sp ad0 n0 A Q hP hC ad H1 locs ls hp hl hL hs
  split at H
  · cases H
  · rename_i hx
    have hx1 : ¬ x < 0 := fun q => hx (Or.inl q)
    have hx2 : x.toNatClampNeg = N := Classical.not_not.mp (fun q => hx (Or.inr q))
    refine va_newa (ty := .long) (a0 := (N, .inr (.inl (fun _ => 0)))) hC.1 hC.2.1 (hC.2.2.2.2.2.1 _ hw) rfl hC.2.2.2.2.2.2.1 hp.1 hp.2.1 hp.2.2.1 hC.2.2.2.2.2.2.2.1 (fun _ => rfl) hx1 hx2 (by show N * 8 ≤ 536870912; omega) hc1 hc2 hd (fun q cA H2 g0 g1 g2 g3 => ?_)
    rw [va_ks (t := 2) g0 rfl] at g1 g2
    exact go_born (E := .inl (2, N, .inr (.inl (fun _ => 0)))) hP hC hp hl hL hs.2 trivial g1 g2 g3 (K H)
theorem go_newA {x : Int32} {N idx : Nat} {β : Type} {K' : Option β} {o : β} (hd : decode (mdB M) pc = .ok (.anewarray idx, 3)) (hw : Cond.classLink (mdY M).cls idx "GlassWatch$Keeping" ∈ TB) (H : (if x < 0 ∨ x.toNatClampNeg ≠ N then none else K') = some o) (hb : N * 4 ≤ 536870912) (hc1 : k + 1 ≤ mdC M) (hc2 : n + N ≤ mdS M) (K : K' = some o → Go P M (pc + 3) L (.ref h.1 :: st) (nw h (.inl (3, N, .inr (.inr (.inr (.inr (fun _ => none))))))) (k + 1) (n + N)) : Go P M pc L (.int x :: st) h k n := by
  intro p l e s m args below meth c D ks sp ad0 n0 A Q hP hC ad H1 locs ls hp hl hL hs
  split at H
  · cases H
  · rename_i hx
    have hx1 : ¬ x < 0 := fun q => hx (Or.inl q)
    have hx2 : x.toNatClampNeg = N := Classical.not_not.mp (fun q => hx (Or.inr q))
    refine va_newq hC.1 hC.2.1 hC.2.2.2.2.1 (hC.2.2.2.2.2.1 _ hw) hC.2.2.2.2.2.2.2.2.1.2.2.2.1 hC.2.2.2.2.2.2.1 hp.1 hp.2.1 hp.2.2.1 hC.2.2.2.2.2.2.2.1 hx1 hx2 hb hc1 hc2 hd (fun q cA H2 g0 g1 g2 g3 => ?_)
    rw [va_ks (t := 3) g0 rfl] at g1 g2
    exact go_born (E := .inl (3, N, .inr (.inr (.inr (.inr (fun _ => none)))))) hP hC hp hl hL hs.2 (fun _ _ q => by cases q) g1 g2 g3 (K H)
theorem go_objInit {a idx : Nat} (hd : decode (mdB M) pc = .ok (.invokespecial idx, 3)) (hw : Cond.methodLink (mdY M).cls idx Lib.objectInit ∈ TB) (hw2 : Cond.instanceMethod Lib.objectInit ∈ TB) (hw3 : Cond.code Lib.objectInit ⟨#[0xb1]⟩ 1 none ∈ TB) (hf : 1 ≤ mdF M) (ho : (st.map fun v => v.category).sum + 12 ≤ mdO M) (K : Go P M (pc + 3) L st h k n) : Go P M pc L (.ref a :: st) h k n := by
  intro p l e s m args below meth c D ks sp ad0 n0 A Q hP hC ad H1 locs ls hp hl hL hs
  refine W.objInit hC.1 hC.2.1 hC.2.2.2.2.1 (hC.2.2.2.2.2.1 _ hw) (hC.2.2.2.2.2.1 _ hw2) (hC.2.2.2.2.2.1 _ hw3) rfl (by rw [hC.2.2.1]; exact hl.1) rfl hd hf ?_ (K p l e s m args below meth c D ks sp ad0 n0 A Q hP hC ad H1 locs ls hp hl hL hs.2)
  show 2 * 0 + ((st.map (tv sp ad)).map fun v => v.category).sum + 12 ≤ mdO M
  rw [List.map_map, show ((fun v : Value => v.category) ∘ tv sp ad) = fun v => v.category from funext (fun v => tv_cat sp ad v)]
  omega
end R
