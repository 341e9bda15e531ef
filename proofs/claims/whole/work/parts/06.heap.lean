/-! the heap's rows: what a plain function reads and writes -/
def gF (h : Hp) (a ci f : Nat) : Option Value := match h.2 a with
  | .inr (c, fs) => if c = ci then fs[f]? else none
  | .inl _ => none
def asI (v : Value) : Option Int32 := match v with
  | .int x => some x
  | _ => none
def asJ (v : Value) : Option Int64 := match v with
  | .long x => some x
  | _ => none
def asR (v : Value) : Option Nat := match v with
  | .ref x => some x
  | _ => none
def gI (h : Hp) (a ci f : Nat) : Option Int32 := (gF h a ci f).bind asI
def gJ (h : Hp) (a ci f : Nat) : Option Int64 := (gF h a ci f).bind asJ
def gR (h : Hp) (a ci f : Nat) : Option Nat := (gF h a ci f).bind asR
def pF (h : Hp) (a ci f : Nat) (v : Value) : Option Hp := match h.2 a with
  | .inr (c, fs) => if c = ci ∧ f < fs.length then some (h.1, va_up h.2 a (.inr (c, fs.set f v))) else none
  | .inl _ => none
def pZ (h : Hp) (a ci f : Nat) (x : Int32) : Option Hp := if x = 0 ∨ x = 1 then pF h a ci f (.int x) else none
def aI (h : Hp) (a : Nat) (i : Int32) : Option Int32 := match h.2 a with
  | .inl (1, n, .inl f) => if i < 0 ∨ n ≤ i.toNatClampNeg then none else some (f i.toNatClampNeg)
  | _ => none
def aB (h : Hp) (a : Nat) (i : Int32) : Option Int32 := match h.2 a with
  | .inl (0, n, .inl f) => if i < 0 ∨ n ≤ i.toNatClampNeg then none else some (f i.toNatClampNeg)
  | _ => none
def aJ (h : Hp) (a : Nat) (i : Int32) : Option Int64 := match h.2 a with
  | .inl (2, n, .inr (.inl f)) => if i < 0 ∨ n ≤ i.toNatClampNeg then none else some (f i.toNatClampNeg)
  | _ => none
def aR (h : Hp) (a : Nat) (i : Int32) : Option Nat := match h.2 a with
  | .inl (3, n, .inr (.inr (.inr (.inr f)))) => if i < 0 ∨ n ≤ i.toNatClampNeg then none else f i.toNatClampNeg
  | _ => none
def sI (h : Hp) (a : Nat) (i x : Int32) : Option Hp := match h.2 a with
  | .inl (1, n, .inl f) => if i < 0 ∨ n ≤ i.toNatClampNeg then none else some (h.1, va_up h.2 a (.inl (1, n, .inl (upd f i.toNatClampNeg x))))
  | _ => none
def sB (h : Hp) (a : Nat) (i x : Int32) : Option Hp := match h.2 a with
  | .inl (0, n, .inl f) => if i < 0 ∨ n ≤ i.toNatClampNeg then none else some (h.1, va_up h.2 a (.inl (0, n, .inl (upd f i.toNatClampNeg (vp_nar .byte x)))))
  | _ => none
def sJ (h : Hp) (a : Nat) (i : Int32) (x : Int64) : Option Hp := match h.2 a with
  | .inl (2, n, .inr (.inl f)) => if i < 0 ∨ n ≤ i.toNatClampNeg then none else some (h.1, va_up h.2 a (.inl (2, n, .inr (.inl (vp_updL f i.toNatClampNeg x)))))
  | _ => none
def sR (h : Hp) (a : Nat) (i : Int32) (x : Nat) : Option Hp := match h.2 a, h.2 x with
  | .inl (3, n, .inr (.inr (.inr (.inr f)))), .inr (4, _) => if i < 0 ∨ n ≤ i.toNatClampNeg then none else some (h.1, va_up h.2 a (.inl (3, n, .inr (.inr (.inr (.inr (va_up f i.toNatClampNeg (some x))))))))
  | _, _ => none
def aN (h : Hp) (a : Nat) : Option Int32 := match h.2 a with
  | .inl (0, n, .inl _) => some (nI n)
  | .inl (1, n, .inl _) => some (nI n)
  | .inl (2, n, .inr (.inl _)) => some (nI n)
  | .inl (3, n, .inr (.inr (.inr (.inr _)))) => some (nI n)
  | _ => none
theorem gF_some {h : Hp} {a ci f : Nat} {v : Value} (e : gF h a ci f = some v) : ∃ fs, h.2 a = .inr (ci, fs) ∧ fs[f]? = some v := by
  unfold gF at e
  split at e
  · rename_i c fs hx
    split at e
    · rename_i hc; subst hc; exact ⟨fs, hx, e⟩
    · cases e
  · cases e
theorem pF_some {h h1 : Hp} {a ci f : Nat} {v : Value} (e : pF h a ci f v = some h1) : ∃ fs, h.2 a = .inr (ci, fs) ∧ f < fs.length ∧ h1 = (h.1, va_up h.2 a (.inr (ci, fs.set f v))) := by
  unfold pF at e
  split at e
  · rename_i c fs hx
    split at e
    · rename_i hc; obtain ⟨hc, hf⟩ := hc; subst hc; exact ⟨fs, hx, hf, (Option.some.inj e).symm⟩
    · cases e
  · cases e
/-- a field's words, by the class file's number in the method's class: class ci, field f -/
def FL (own : String) (idx ci f : Nat) : Prop := ∃ (C : String) (T : u_T) (N : Nat), vwCl[ci]? = some (C, T, N) ∧ (∀ w ∈ u_ws C T N, w ∈ TB) ∧ f < N ∧ Cond.fieldLink own idx (T f).1 (T f).2.1 (T f).2.2.1 ∈ TB
/-- the same, for a store: types; not final, or final and within the class's own <init> -/
def FS (own : String) (idx ci f : Nat) (ty : FieldType) (fin : Bool) : Prop := ∃ (C : String) (T : u_T) (N : Nat) (t0 : Nat → FieldType), vwCl[ci]? = some (C, T, N) ∧ (∀ w ∈ u_ws C T N, w ∈ TB) ∧ f < N ∧ Cond.fieldLink own idx (T f).1 (T f).2.1 (T f).2.2.1 ∈ TB ∧ (∀ k, k < N → parseFieldDescriptor (T k).2.2.1 = some (t0 k)) ∧ (∀ a, a < N → ∀ b, b < N → a ≠ b → (T a).2.1 ≠ (T b).2.1) ∧ (T f).2.2.2 = fin ∧ parseFieldDescriptor (T f).2.2.1 = some ty ∧ (T f).1 = C
theorem bi_some {α β : Type} {o : Option α} {K : α → Option β} {r : β} (H : o.bind K = some r) : ∃ x, o = some x ∧ K x = some r := by
  cases o with
  | none => cases H
  | some x => exact ⟨x, rfl, H⟩
theorem asI_some {v : Value} {x : Int32} (e : asI v = some x) : v = .int x := by cases v <;> simp [asI] at e; rw [e]
theorem asJ_some {v : Value} {x : Int64} (e : asJ v = some x) : v = .long x := by cases v <;> simp [asJ] at e; rw [e]
theorem asR_some {v : Value} {x : Nat} (e : asR v = some x) : v = .ref x := by cases v <;> simp [asR] at e; rw [e]
section R
variable {P : PT} {M : MD} {pc : Nat} {L : List (Option Value)} {st : List Value} {h : Hp} {k n : Nat}
theorem go_getV {a idx ci f : Nat} {v : Value} (hd : decode (mdB M) pc = .ok (.getfield idx, 3)) (lk : FL (mdY M).cls idx ci f) (hg : gF h a ci f = some v) (K : Go P M (pc + 3) L (v :: st) h k n) : Go P M pc L (.ref a :: st) h k n := by
  intro p l e s m args below meth c D ks sp ad0 n0 A Q hP hC ad H locs ls hp hl hL hs
  obtain ⟨fs, e1, e2⟩ := gF_some hg
  obtain ⟨C, T, N, h1, h2, h3, h4⟩ := lk
  have ha : a < h.1 := hs.1
  have e3 : (wsO ks sp ad h)[a]? = some (ad a, .inr (ci, fs.map (tv sp ad))) := by rw [wsO_get ha, e1]; rfl
  have hw := hp.2.2.2.1 a ha
  rw [e1] at hw
  exact va_get hC.1 hC.2.1 hC.2.2.2.2.2.1 h2 hC.2.2.2.2.1 hC.2.2.2.2.2.2.1 hp.1 a e3 h1 f h3 (hC.2.2.2.2.2.1 _ h4) (fun _ q => q) (v := tv sp ad v) (by rw [List.getElem?_map, e2]; rfl) hd (K p l e s m args below meth c D ks sp ad0 n0 A Q hP hC ad H locs ls hp hl hL ⟨hw f v e2, hs.2⟩)
theorem go_getI {a idx ci f : Nat} {β : Type} {K' : Int32 → Option β} {o : β} (hd : decode (mdB M) pc = .ok (.getfield idx, 3)) (lk : FL (mdY M).cls idx ci f) (H : (gI h a ci f).bind K' = some o) (K : ∀ x, K' x = some o → Go P M (pc + 3) L (.int x :: st) h k n) : Go P M pc L (.ref a :: st) h k n := by
  obtain ⟨x, e1, e2⟩ := bi_some H
  obtain ⟨v, e3, e4⟩ := bi_some e1
  rw [asI_some e4] at e3
  exact go_getV hd lk e3 (K x e2)
theorem go_getJ {a idx ci f : Nat} {β : Type} {K' : Int64 → Option β} {o : β} (hd : decode (mdB M) pc = .ok (.getfield idx, 3)) (lk : FL (mdY M).cls idx ci f) (H : (gJ h a ci f).bind K' = some o) (K : ∀ x, K' x = some o → Go P M (pc + 3) L (.long x :: st) h k n) : Go P M pc L (.ref a :: st) h k n := by
  obtain ⟨x, e1, e2⟩ := bi_some H
  obtain ⟨v, e3, e4⟩ := bi_some e1
  rw [asJ_some e4] at e3
  exact go_getV hd lk e3 (K x e2)
theorem go_getR {a idx ci f : Nat} {β : Type} {K' : Nat → Option β} {o : β} (hd : decode (mdB M) pc = .ok (.getfield idx, 3)) (lk : FL (mdY M).cls idx ci f) (H : (gR h a ci f).bind K' = some o) (K : ∀ x, K' x = some o → Go P M (pc + 3) L (.ref x :: st) h k n) : Go P M pc L (.ref a :: st) h k n := by
  obtain ⟨x, e1, e2⟩ := bi_some H
  obtain ⟨v, e3, e4⟩ := bi_some e1
  rw [asR_some e4] at e3
  exact go_getV hd lk e3 (K x e2)
theorem wfh_set {h : Hp} {a : Nat} {e : va_E} (hw : wfh h) (he : wfe h.1 e) : wfh (h.1, va_up h.2 a e) := fun i hi => by
  show wfe h.1 (va_up h.2 a e i)
  by_cases q : i = a
  · rw [q]; simp only [va_up, if_true]; exact he
  · simp only [va_up, if_neg q]; exact hw i hi
theorem go_putV {a idx ci f : Nat} {v : Value} {h1 : Hp} {ty : FieldType} {fin : Bool} (hd : decode (mdB M) pc = .ok (.putfield idx, 3)) (lk : FS (mdY M).cls idx ci f ty fin) (hfin : fin = true → (mdY M).name = "<init>" ∧ ∃ q, vwCl[ci]? = some q ∧ q.1 = (mdY M).cls) (hg : pF h a ci f v = some h1) (hn : ∀ sp ad, narrow ty (tv sp ad v) = tv sp ad v) (hfit : ∀ sp ad, fits ty (tv sp ad v) = true) (K : Go P M (pc + 3) L st h1 k n) : Go P M pc L (v :: .ref a :: st) h k n := by
  intro p l e s m args below meth c D ks sp ad0 n0 A Q hP hC ad H locs ls hp hl hL hs
  obtain ⟨fs, e1, e2, rfl⟩ := pF_some hg
  obtain ⟨C, T, N, t0, q1, q2, q3, q4, q5, q6, q7, q8, q9⟩ := lk
  have ha : a < h.1 := hs.2.1
  have e3 : (wsO ks sp ad h)[a]? = some (ad a, .inr (ci, fs.map (tv sp ad))) := by rw [wsO_get ha, e1]; rfl
  have hw := hp.2.2.2.1 a ha
  rw [e1] at hw
  have e4 : (wsO ks sp ad h).set a (ad a, .inr (ci, (fs.map (tv sp ad)).set f (tv sp ad v))) = wsO ks sp ad (h.1, va_up h.2 a (.inr (ci, fs.set f v))) := by
    rw [← wsO_set _ ha]; simp only [te, List.map_set]
  have hw2 : wfe h.1 (.inr (ci, fs.set f v)) := by
    intro j w hj
    by_cases q : f = j
    · subst q
      rw [List.getElem?_set_self'] at hj
      cases hL2 : fs[f]? with
      | none => rw [hL2] at hj; simp at hj
      | some y => rw [hL2] at hj; simp at hj; rw [← hj]; exact hs.1
    · rw [List.getElem?_set_ne q] at hj
      exact hw j w hj
  have kk : ∀ (H1 : Heap) (locs1 : List Loc), va_P D vwCl ((wsO ks sp ad h).set a (ad a, .inr (ci, (fs.map (tv sp ad)).set f (tv sp ad v)))) H1 → va_D A ((wsO ks sp ad h).set a (ad a, .inr (ci, (fs.map (tv sp ad)).set f (tv sp ad v)))) → va_S A s.heap H1 locs1 → W p l e (mdRoom M) s m args below meth c H1 locs1 k n Q (F0 m (pc + 3) ls (st.map (tv sp ad))) := by
    intro H1 locs1 g1 g2 g3
    rw [e4] at g1 g2
    exact K p l e s m args below meth c D ks sp ad0 n0 A Q hP hC ad H1 locs1 ls ⟨g1, g2, g3, wfh_set hp.2.2.2.1 hw2, hp.2.2.2.2⟩ hl hL hs.2.2
  cases fin with
  | false => exact va_put hC.1 hC.2.1 hC.2.2.2.2.2.1 q2 t0 q5 q6 hC.2.2.2.2.1 hC.2.2.2.2.2.2.1 hp.1 hp.2.1 hp.2.2.1 a e3 q1 f q3 (hC.2.2.2.2.2.1 _ q4) (fun _ q => q) q7 q8 (hn sp ad) (hfit sp ad) (by rw [List.length_map]; exact e2) hd kk
  | true =>
    obtain ⟨z1, z2, z3, z4⟩ := hfin rfl
    have z5 : C = (mdY M).cls := by rw [q1] at z3; cases z3; exact z4
    exact va_putF hC.1 hC.2.1 hC.2.2.2.2.2.1 q2 t0 q5 q6 hC.2.2.2.2.1 hC.2.2.2.2.2.2.1 hp.1 hp.2.1 hp.2.2.1 a e3 q1 f q3 (hC.2.2.2.2.2.1 _ q4) (fun _ q => q) q7 (hC.2.2.2.2.2.2.2.2.2.2.trans z1) (q9.trans z5) q8 (hn sp ad) (hfit sp ad) (by rw [List.length_map]; exact e2) hd kk
/-- a final field is stored by its own class's <init> -/
def IN (M : MD) (ci : Nat) : Prop := (mdY M).name = "<init>" ∧ ∃ q, vwCl[ci]? = some q ∧ q.1 = (mdY M).cls
theorem go_putI {a idx ci f : Nat} {x : Int32} {β : Type} {K' : Hp → Option β} {o : β} (hd : decode (mdB M) pc = .ok (.putfield idx, 3)) (lk : FS (mdY M).cls idx ci f .int false) (H : (pF h a ci f (.int x)).bind K' = some o) (K : ∀ h1, K' h1 = some o → Go P M (pc + 3) L st h1 k n) : Go P M pc L (.int x :: .ref a :: st) h k n := by
  obtain ⟨h1, e1, e2⟩ := bi_some H
  exact go_putV hd lk (fun q => by cases q) e1 (fun _ _ => rfl) (fun _ _ => rfl) (K h1 e2)
theorem go_putIF {a idx ci f : Nat} {x : Int32} {β : Type} {K' : Hp → Option β} {o : β} (hd : decode (mdB M) pc = .ok (.putfield idx, 3)) (lk : FS (mdY M).cls idx ci f .int true) (hi : IN M ci) (H : (pF h a ci f (.int x)).bind K' = some o) (K : ∀ h1, K' h1 = some o → Go P M (pc + 3) L st h1 k n) : Go P M pc L (.int x :: .ref a :: st) h k n := by
  obtain ⟨h1, e1, e2⟩ := bi_some H
  exact go_putV hd lk (fun _ => hi) e1 (fun _ _ => rfl) (fun _ _ => rfl) (K h1 e2)
theorem go_putJ {a idx ci f : Nat} {x : Int64} {β : Type} {K' : Hp → Option β} {o : β} (hd : decode (mdB M) pc = .ok (.putfield idx, 3)) (lk : FS (mdY M).cls idx ci f .long false) (H : (pF h a ci f (.long x)).bind K' = some o) (K : ∀ h1, K' h1 = some o → Go P M (pc + 3) L st h1 k n) : Go P M pc L (.long x :: .ref a :: st) h k n := by
  obtain ⟨h1, e1, e2⟩ := bi_some H
  exact go_putV hd lk (fun q => by cases q) e1 (fun _ _ => rfl) (fun _ _ => rfl) (K h1 e2)
theorem go_putZ {a idx ci f : Nat} {x : Int32} {β : Type} {K' : Hp → Option β} {o : β} (hd : decode (mdB M) pc = .ok (.putfield idx, 3)) (lk : FS (mdY M).cls idx ci f .boolean false) (H : (pZ h a ci f x).bind K' = some o) (K : ∀ h1, K' h1 = some o → Go P M (pc + 3) L st h1 k n) : Go P M pc L (.int x :: .ref a :: st) h k n := by
  obtain ⟨h1, e1, e2⟩ := bi_some H
  unfold pZ at e1
  split at e1
  · rename_i hx
    refine go_putV hd lk (fun q => by cases q) e1 (fun _ _ => ?_) (fun _ _ => ?_) (K h1 e2)
    · rcases hx with rfl | rfl <;> rfl
    · rcases hx with rfl | rfl <;> rfl
  · cases e1
theorem go_putR {a idx ci f x : Nat} {C : String} {β : Type} {K' : Hp → Option β} {o : β} (hd : decode (mdB M) pc = .ok (.putfield idx, 3)) (lk : FS (mdY M).cls idx ci f (.object C) false) (H : (pF h a ci f (.ref x)).bind K' = some o) (K : ∀ h1, K' h1 = some o → Go P M (pc + 3) L st h1 k n) : Go P M pc L (.ref x :: .ref a :: st) h k n := by
  obtain ⟨h1, e1, e2⟩ := bi_some H
  exact go_putV hd lk (fun q => by cases q) e1 (fun _ _ => rfl) (fun _ _ => rfl) (K h1 e2)
theorem go_putRF {a idx ci f x : Nat} {C : String} {β : Type} {K' : Hp → Option β} {o : β} (hd : decode (mdB M) pc = .ok (.putfield idx, 3)) (lk : FS (mdY M).cls idx ci f (.object C) true) (hi : IN M ci) (H : (pF h a ci f (.ref x)).bind K' = some o) (K : ∀ h1, K' h1 = some o → Go P M (pc + 3) L st h1 k n) : Go P M pc L (.ref x :: .ref a :: st) h k n := by
  obtain ⟨h1, e1, e2⟩ := bi_some H
  exact go_putV hd lk (fun _ => hi) e1 (fun _ _ => rfl) (fun _ _ => rfl) (K h1 e2)
theorem go_putAF {a idx ci f x : Nat} {ty : FieldType} {β : Type} {K' : Hp → Option β} {o : β} (hd : decode (mdB M) pc = .ok (.putfield idx, 3)) (lk : FS (mdY M).cls idx ci f (.array ty) true) (hi : IN M ci) (H : (pF h a ci f (.ref x)).bind K' = some o) (K : ∀ h1, K' h1 = some o → Go P M (pc + 3) L st h1 k n) : Go P M pc L (.ref x :: .ref a :: st) h k n := by
  obtain ⟨h1, e1, e2⟩ := bi_some H
  exact go_putV hd lk (fun _ => hi) e1 (fun _ _ => rfl) (fun _ _ => rfl) (K h1 e2)
end R
