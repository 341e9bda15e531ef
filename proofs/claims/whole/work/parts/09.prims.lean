/-! small words of the plain functions -/
def pin {α β : Type} (x : α) (K : α → Option β) : Option β := K x
def loopN {α : Type} (z : α) (F : α → α) : Nat → α
  | 0 => z
  | n + 1 => F (loopN z F n)
theorem i32_ne {x c : Int32} (h : ¬ x = c) : x.toInt ≠ c.toInt := fun q => h (Int32.toInt_inj.mp q)
def sLen (j : Nat) : Option Int32 := if j < 44 then some (nI (strL j)) else none
def sAt (j : Nat) (i : Int32) : Option Int32 := if j < 44 ∧ ¬ (i < 0 ∨ strL j ≤ i.toNatClampNeg) then some (strB j i.toNatClampNeg) else none
section R
variable {P : PT} {M : MD} {pc : Nat} {L : List (Option Value)} {st : List Value} {h : Hp} {k n : Nat}
theorem go_pin {x : Int32} {β : Type} {K' : Int32 → Option β} {o : β} (H : pin x K' = some o) (K : ∀ y, K' y = some o → Go P M pc L (.int y :: st) h k n) : Go P M pc L (.int x :: st) h k n := K x H
theorem go_pinJ {x : Int64} {β : Type} {K' : Int64 → Option β} {o : β} (H : pin x K' = some o) (K : ∀ y, K' y = some o → Go P M pc L (.long y :: st) h k n) : Go P M pc L (.long x :: st) h k n := K x H
theorem go_pinH {β : Type} {K' : Hp → Option β} {o : β} (H : pin h K' = some o) (K : ∀ h1, K' h1 = some o → Go P M pc L st h1 k n) : Go P M pc L st h k n := K h H
theorem go_idivC {x y : Int32} {β : Type} {K' : Option β} {o : β} (hd : decode (mdB M) pc = .ok (.idiv, 1)) (H : (if y = 0 then none else K') = some o) (K : K' = some o → Go P M (pc + 1) L (.int (x / y) :: st) h k n) : Go P M pc L (.int y :: .int x :: st) h k n := by
  split at H
  · cases H
  · rename_i hy; exact go_idiv hd hy (K H)
theorem go_iremC {x y : Int32} {β : Type} {K' : Option β} {o : β} (hd : decode (mdB M) pc = .ok (.irem, 1)) (H : (if y = 0 then none else K') = some o) (K : K' = some o → Go P M (pc + 1) L (.int (x - x / y * y) :: st) h k n) : Go P M pc L (.int y :: .int x :: st) h k n := by
  split at H
  · cases H
  · rename_i hy; exact go_irem hd hy (K H)
theorem go_ldivC {x y : Int64} {β : Type} {K' : Option β} {o : β} (hd : decode (mdB M) pc = .ok (.ldiv, 1)) (H : (if y = 0 then none else K') = some o) (K : K' = some o → Go P M (pc + 1) L (.long (x / y) :: st) h k n) : Go P M pc L (.long y :: .long x :: st) h k n := by
  split at H
  · cases H
  · rename_i hy; exact go_ldiv hd hy (K H)
theorem go_lremC {x y : Int64} {β : Type} {K' : Option β} {o : β} (hd : decode (mdB M) pc = .ok (.lrem, 1)) (H : (if y = 0 then none else K') = some o) (K : K' = some o → Go P M (pc + 1) L (.long (x - x / y * y) :: st) h k n) : Go P M pc L (.long y :: .long x :: st) h k n := by
  split at H
  · cases H
  · rename_i hy; exact go_lrem hd hy (K H)
/-- an int array of a reckoned length, at most B -/
theorem go_newID {x : Int32} (B : Nat) {β : Type} {K' : Option β} {o : β} (hd : decode (mdB M) pc = .ok (.newarray .int, 2)) (hw : Cond.arrayClass (newarray.typeOf .int) ∈ TB) (H : (if x < 0 ∨ B < x.toNatClampNeg then none else K') = some o) (hb : B * 8 ≤ 536870912) (hc1 : k + 1 ≤ mdC M) (hc2 : n + B ≤ mdS M) (K : K' = some o → Go P M (pc + 2) L (.ref h.1 :: st) (nw h (.inl (1, x.toNatClampNeg, .inl (fun _ => 0)))) (k + 1) (n + B)) : Go P M pc L (.int x :: st) h k n := by
  split at H
  · cases H
  · rename_i hx
    have hx1 : ¬ x < 0 := fun q => hx (Or.inl q)
    have hx2 : ¬ B < x.toNatClampNeg := fun q => hx (Or.inr q)
    exact go_newI (N := x.toNatClampNeg) (o := ()) (K' := some ()) hd hw (by rw [if_neg (fun q => q.elim hx1 (fun z => z rfl))]) (by omega) hc1 (by omega) (fun _ => Go.widen (Nat.le_refl _) (by omega) (K H))
theorem go_ldcSW {i : Nat} (j : Nat) {tx : String} (hd : decode (mdB M) pc = .ok (.ldc_w i, 3)) (hw : strK[j]? = some ((mdY M).cls, i, tx)) (K : Go P M (pc + 3) L (.retAddr j :: st) h k n) : Go P M pc L st h k n := by
  intro p l e s m args below meth c D ks sp ad0 n0 A Q hP hC ad H locs ls hp hl hL hs
  have hZ := hC.2.2.2.2.2.2.2.2.1.2.1 j _ hw
  have kk := K p l e s m args below meth c D ks sp ad0 n0 A Q hP hC ad H locs ls hp hl hL ⟨trivial, hs⟩
  intro T hT X
  obtain ⟨t, a1, b1⟩ := kk T hT X
  exact ⟨t, X.ldcStringW hC.1 hC.2.2.2.2.1 (text := tx) (a := sp j) hZ.1 hZ.2 (g := F0 m pc ls (st.map (tv sp ad))) rfl (by rw [hC.2.1]; exact hd) t a1, b1⟩
end R
