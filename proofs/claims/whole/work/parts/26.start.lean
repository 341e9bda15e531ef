/-! the start: what the Statement gives of the launch, as the small machine wants it -/
def strTm (i : Nat) : Term := Term.string (strK.getD i ("", 0, "")).1 (strK.getD i ("", 0, "")).2.1
def givN : List Cond := flatC (Jvm.Cond.and given_1 narrow_1)
def strPos (i : Nat) : Nat := [23, 33, 41, 51, 59, 66, 77, 86, 94, 103, 113, 122, 132, 139, 147, 156, 165, 174, 182, 191, 199, 208, 214, 225, 234, 245, 254, 262, 274, 284, 293, 303, 314, 324, 335, 343, 352, 362, 372, 382, 391, 401, 410, 420].getD i 0
def strC (i : Nat) : List Cond := Cond.exactly (strTm i) "java/lang/String" :: Cond.eq (.field (strTm i) "java/lang/String" "coder" "B") (.int 0) :: Cond.arrayOf (.field (strTm i) "java/lang/String" "value" "[B") .byte :: Cond.eq (.length (.field (strTm i) "java/lang/String" "value" "[B")) (.int (Int32.ofNat (strL i))) :: (List.range (strL i)).map (fun j => Cond.eq (.elem (.field (strTm i) "java/lang/String" "value" "[B") (.int (Int32.ofNat j))) (.int (strB i j)))
theorem strC_eq : (List.range 44).map (fun i => (givN.drop (strPos i)).take (4 + strL i)) = (List.range 44).map strC := by decide +kernel
theorem strC_in {w : Cond} {i : Nat} (hi : i < 44) (h : w ∈ strC i) : w ∈ givN := by
  have e : ((List.range 44).map (fun i => (givN.drop (strPos i)).take (4 + strL i)))[i]? = ((List.range 44).map strC)[i]? := by rw [strC_eq]
  simp only [List.getElem?_map, List.getElem?_range hi, Option.map_some, Option.some.injEq] at e
  rw [← e] at h
  exact List.mem_of_mem_drop (List.mem_of_mem_take h)
theorem st_ex : ∀ i, i < 44 → Cond.exactly (strTm i) "java/lang/String" ∈ givN := fun i hi => strC_in hi (by unfold strC; exact List.mem_cons_self)
theorem st_co : ∀ i, i < 44 → Cond.eq (.field (strTm i) "java/lang/String" "coder" "B") (.int 0) ∈ givN := fun i hi => strC_in hi (by unfold strC; exact List.mem_cons_of_mem _ List.mem_cons_self)
theorem st_ar : ∀ i, i < 44 → Cond.arrayOf (.field (strTm i) "java/lang/String" "value" "[B") .byte ∈ givN := fun i hi => strC_in hi (by unfold strC; exact List.mem_cons_of_mem _ (List.mem_cons_of_mem _ List.mem_cons_self))
theorem st_le : ∀ i, i < 44 → Cond.eq (.length (.field (strTm i) "java/lang/String" "value" "[B")) (.int (Int32.ofNat (strL i))) ∈ givN := fun i hi => strC_in hi (by unfold strC; exact List.mem_cons_of_mem _ (List.mem_cons_of_mem _ (List.mem_cons_of_mem _ List.mem_cons_self)))
theorem st_el : ∀ i, i < 44 → ∀ j, j < strL i → Cond.eq (.elem (.field (strTm i) "java/lang/String" "value" "[B") (.int (Int32.ofNat j))) (.int (strB i j)) ∈ givN := fun i hi j hj => strC_in hi (by unfold strC; exact List.mem_cons_of_mem _ (List.mem_cons_of_mem _ (List.mem_cons_of_mem _ (List.mem_cons_of_mem _ (List.mem_map.mpr ⟨j, List.mem_range.mpr hj, rfl⟩)))))
theorem st_sr0 : Cond.stringRef (strK.getD 0 ("", 0, "")).1 (strK.getD 0 ("", 0, "")).2.1 (strK.getD 0 ("", 0, "")).2.2 ∈ lw_tbl := in_t2 (List.mem_of_getElem? (i := 190) (by decide +kernel))
theorem st_sr1 : Cond.stringRef (strK.getD 1 ("", 0, "")).1 (strK.getD 1 ("", 0, "")).2.1 (strK.getD 1 ("", 0, "")).2.2 ∈ lw_tbl := in_t3 (List.mem_of_getElem? (i := 11) (by decide +kernel))
theorem st_sr2 : Cond.stringRef (strK.getD 2 ("", 0, "")).1 (strK.getD 2 ("", 0, "")).2.1 (strK.getD 2 ("", 0, "")).2.2 ∈ lw_tbl := in_t3 (List.mem_of_getElem? (i := 20) (by decide +kernel))
theorem st_sr3 : Cond.stringRef (strK.getD 3 ("", 0, "")).1 (strK.getD 3 ("", 0, "")).2.1 (strK.getD 3 ("", 0, "")).2.2 ∈ lw_tbl := in_t3 (List.mem_of_getElem? (i := 21) (by decide +kernel))
theorem st_sr4 : Cond.stringRef (strK.getD 4 ("", 0, "")).1 (strK.getD 4 ("", 0, "")).2.1 (strK.getD 4 ("", 0, "")).2.2 ∈ lw_tbl := in_t3 (List.mem_of_getElem? (i := 26) (by decide +kernel))
theorem st_sr5 : Cond.stringRef (strK.getD 5 ("", 0, "")).1 (strK.getD 5 ("", 0, "")).2.1 (strK.getD 5 ("", 0, "")).2.2 ∈ lw_tbl := in_t3 (List.mem_of_getElem? (i := 27) (by decide +kernel))
theorem st_sr6 : Cond.stringRef (strK.getD 6 ("", 0, "")).1 (strK.getD 6 ("", 0, "")).2.1 (strK.getD 6 ("", 0, "")).2.2 ∈ lw_tbl := in_t3 (List.mem_of_getElem? (i := 28) (by decide +kernel))
theorem st_sr7 : Cond.stringRef (strK.getD 7 ("", 0, "")).1 (strK.getD 7 ("", 0, "")).2.1 (strK.getD 7 ("", 0, "")).2.2 ∈ lw_tbl := in_t3 (List.mem_of_getElem? (i := 29) (by decide +kernel))
theorem st_sr8 : Cond.stringRef (strK.getD 8 ("", 0, "")).1 (strK.getD 8 ("", 0, "")).2.1 (strK.getD 8 ("", 0, "")).2.2 ∈ lw_tbl := in_t3 (List.mem_of_getElem? (i := 30) (by decide +kernel))
theorem st_sr9 : Cond.stringRef (strK.getD 9 ("", 0, "")).1 (strK.getD 9 ("", 0, "")).2.1 (strK.getD 9 ("", 0, "")).2.2 ∈ lw_tbl := in_t3 (List.mem_of_getElem? (i := 31) (by decide +kernel))
theorem st_sr10 : Cond.stringRef (strK.getD 10 ("", 0, "")).1 (strK.getD 10 ("", 0, "")).2.1 (strK.getD 10 ("", 0, "")).2.2 ∈ lw_tbl := in_t3 (List.mem_of_getElem? (i := 32) (by decide +kernel))
theorem st_sr11 : Cond.stringRef (strK.getD 11 ("", 0, "")).1 (strK.getD 11 ("", 0, "")).2.1 (strK.getD 11 ("", 0, "")).2.2 ∈ lw_tbl := in_t3 (List.mem_of_getElem? (i := 49) (by decide +kernel))
theorem st_sr12 : Cond.stringRef (strK.getD 12 ("", 0, "")).1 (strK.getD 12 ("", 0, "")).2.1 (strK.getD 12 ("", 0, "")).2.2 ∈ lw_tbl := in_t3 (List.mem_of_getElem? (i := 50) (by decide +kernel))
theorem st_sr13 : Cond.stringRef (strK.getD 13 ("", 0, "")).1 (strK.getD 13 ("", 0, "")).2.1 (strK.getD 13 ("", 0, "")).2.2 ∈ lw_tbl := in_t3 (List.mem_of_getElem? (i := 51) (by decide +kernel))
theorem st_sr14 : Cond.stringRef (strK.getD 14 ("", 0, "")).1 (strK.getD 14 ("", 0, "")).2.1 (strK.getD 14 ("", 0, "")).2.2 ∈ lw_tbl := in_t3 (List.mem_of_getElem? (i := 52) (by decide +kernel))
theorem st_sr15 : Cond.stringRef (strK.getD 15 ("", 0, "")).1 (strK.getD 15 ("", 0, "")).2.1 (strK.getD 15 ("", 0, "")).2.2 ∈ lw_tbl := in_t3 (List.mem_of_getElem? (i := 69) (by decide +kernel))
theorem st_sr16 : Cond.stringRef (strK.getD 16 ("", 0, "")).1 (strK.getD 16 ("", 0, "")).2.1 (strK.getD 16 ("", 0, "")).2.2 ∈ lw_tbl := in_t3 (List.mem_of_getElem? (i := 85) (by decide +kernel))
theorem st_sr17 : Cond.stringRef (strK.getD 17 ("", 0, "")).1 (strK.getD 17 ("", 0, "")).2.1 (strK.getD 17 ("", 0, "")).2.2 ∈ lw_tbl := in_t3 (List.mem_of_getElem? (i := 86) (by decide +kernel))
theorem st_sr18 : Cond.stringRef (strK.getD 18 ("", 0, "")).1 (strK.getD 18 ("", 0, "")).2.1 (strK.getD 18 ("", 0, "")).2.2 ∈ lw_tbl := in_t3 (List.mem_of_getElem? (i := 87) (by decide +kernel))
theorem st_sr19 : Cond.stringRef (strK.getD 19 ("", 0, "")).1 (strK.getD 19 ("", 0, "")).2.1 (strK.getD 19 ("", 0, "")).2.2 ∈ lw_tbl := in_t3 (List.mem_of_getElem? (i := 88) (by decide +kernel))
theorem st_sr20 : Cond.stringRef (strK.getD 20 ("", 0, "")).1 (strK.getD 20 ("", 0, "")).2.1 (strK.getD 20 ("", 0, "")).2.2 ∈ lw_tbl := in_t3 (List.mem_of_getElem? (i := 89) (by decide +kernel))
theorem st_sr21 : Cond.stringRef (strK.getD 21 ("", 0, "")).1 (strK.getD 21 ("", 0, "")).2.1 (strK.getD 21 ("", 0, "")).2.2 ∈ lw_tbl := in_t3 (List.mem_of_getElem? (i := 94) (by decide +kernel))
theorem st_sr22 : Cond.stringRef (strK.getD 22 ("", 0, "")).1 (strK.getD 22 ("", 0, "")).2.1 (strK.getD 22 ("", 0, "")).2.2 ∈ lw_tbl := in_t6 (List.mem_of_getElem? (i := 195) (by decide +kernel))
theorem st_sr23 : Cond.stringRef (strK.getD 23 ("", 0, "")).1 (strK.getD 23 ("", 0, "")).2.1 (strK.getD 23 ("", 0, "")).2.2 ∈ lw_tbl := in_t6 (List.mem_of_getElem? (i := 210) (by decide +kernel))
theorem st_sr24 : Cond.stringRef (strK.getD 24 ("", 0, "")).1 (strK.getD 24 ("", 0, "")).2.1 (strK.getD 24 ("", 0, "")).2.2 ∈ lw_tbl := in_t6 (List.mem_of_getElem? (i := 235) (by decide +kernel))
theorem st_sr25 : Cond.stringRef (strK.getD 25 ("", 0, "")).1 (strK.getD 25 ("", 0, "")).2.1 (strK.getD 25 ("", 0, "")).2.2 ∈ lw_tbl := in_t6 (List.mem_of_getElem? (i := 236) (by decide +kernel))
theorem st_sr26 : Cond.stringRef (strK.getD 26 ("", 0, "")).1 (strK.getD 26 ("", 0, "")).2.1 (strK.getD 26 ("", 0, "")).2.2 ∈ lw_tbl := in_t6 (List.mem_of_getElem? (i := 237) (by decide +kernel))
theorem st_sr27 : Cond.stringRef (strK.getD 27 ("", 0, "")).1 (strK.getD 27 ("", 0, "")).2.1 (strK.getD 27 ("", 0, "")).2.2 ∈ lw_tbl := in_t7 (List.mem_of_getElem? (i := 14) (by decide +kernel))
theorem st_sr28 : Cond.stringRef (strK.getD 28 ("", 0, "")).1 (strK.getD 28 ("", 0, "")).2.1 (strK.getD 28 ("", 0, "")).2.2 ∈ lw_tbl := in_t7 (List.mem_of_getElem? (i := 15) (by decide +kernel))
theorem st_sr29 : Cond.stringRef (strK.getD 29 ("", 0, "")).1 (strK.getD 29 ("", 0, "")).2.1 (strK.getD 29 ("", 0, "")).2.2 ∈ lw_tbl := in_t7 (List.mem_of_getElem? (i := 16) (by decide +kernel))
theorem st_sr30 : Cond.stringRef (strK.getD 30 ("", 0, "")).1 (strK.getD 30 ("", 0, "")).2.1 (strK.getD 30 ("", 0, "")).2.2 ∈ lw_tbl := in_t7 (List.mem_of_getElem? (i := 17) (by decide +kernel))
theorem st_sr31 : Cond.stringRef (strK.getD 31 ("", 0, "")).1 (strK.getD 31 ("", 0, "")).2.1 (strK.getD 31 ("", 0, "")).2.2 ∈ lw_tbl := in_t7 (List.mem_of_getElem? (i := 18) (by decide +kernel))
theorem st_sr32 : Cond.stringRef (strK.getD 32 ("", 0, "")).1 (strK.getD 32 ("", 0, "")).2.1 (strK.getD 32 ("", 0, "")).2.2 ∈ lw_tbl := in_t7 (List.mem_of_getElem? (i := 19) (by decide +kernel))
theorem st_sr33 : Cond.stringRef (strK.getD 33 ("", 0, "")).1 (strK.getD 33 ("", 0, "")).2.1 (strK.getD 33 ("", 0, "")).2.2 ∈ lw_tbl := in_t7 (List.mem_of_getElem? (i := 24) (by decide +kernel))
theorem st_sr34 : Cond.stringRef (strK.getD 34 ("", 0, "")).1 (strK.getD 34 ("", 0, "")).2.1 (strK.getD 34 ("", 0, "")).2.2 ∈ lw_tbl := in_t7 (List.mem_of_getElem? (i := 25) (by decide +kernel))
theorem st_sr35 : Cond.stringRef (strK.getD 35 ("", 0, "")).1 (strK.getD 35 ("", 0, "")).2.1 (strK.getD 35 ("", 0, "")).2.2 ∈ lw_tbl := in_t7 (List.mem_of_getElem? (i := 26) (by decide +kernel))
theorem st_sr36 : Cond.stringRef (strK.getD 36 ("", 0, "")).1 (strK.getD 36 ("", 0, "")).2.1 (strK.getD 36 ("", 0, "")).2.2 ∈ lw_tbl := in_t7 (List.mem_of_getElem? (i := 27) (by decide +kernel))
theorem st_sr37 : Cond.stringRef (strK.getD 37 ("", 0, "")).1 (strK.getD 37 ("", 0, "")).2.1 (strK.getD 37 ("", 0, "")).2.2 ∈ lw_tbl := in_t7 (List.mem_of_getElem? (i := 32) (by decide +kernel))
theorem st_sr38 : Cond.stringRef (strK.getD 38 ("", 0, "")).1 (strK.getD 38 ("", 0, "")).2.1 (strK.getD 38 ("", 0, "")).2.2 ∈ lw_tbl := in_t7 (List.mem_of_getElem? (i := 41) (by decide +kernel))
theorem st_sr39 : Cond.stringRef (strK.getD 39 ("", 0, "")).1 (strK.getD 39 ("", 0, "")).2.1 (strK.getD 39 ("", 0, "")).2.2 ∈ lw_tbl := in_t7 (List.mem_of_getElem? (i := 42) (by decide +kernel))
theorem st_sr40 : Cond.stringRef (strK.getD 40 ("", 0, "")).1 (strK.getD 40 ("", 0, "")).2.1 (strK.getD 40 ("", 0, "")).2.2 ∈ lw_tbl := in_t7 (List.mem_of_getElem? (i := 43) (by decide +kernel))
theorem st_sr41 : Cond.stringRef (strK.getD 41 ("", 0, "")).1 (strK.getD 41 ("", 0, "")).2.1 (strK.getD 41 ("", 0, "")).2.2 ∈ lw_tbl := in_t7 (List.mem_of_getElem? (i := 44) (by decide +kernel))
theorem st_sr42 : Cond.stringRef (strK.getD 42 ("", 0, "")).1 (strK.getD 42 ("", 0, "")).2.1 (strK.getD 42 ("", 0, "")).2.2 ∈ lw_tbl := in_t7 (List.mem_of_getElem? (i := 45) (by decide +kernel))
theorem st_sr43 : Cond.stringRef (strK.getD 43 ("", 0, "")).1 (strK.getD 43 ("", 0, "")).2.1 (strK.getD 43 ("", 0, "")).2.2 ∈ lw_tbl := in_t7 (List.mem_of_getElem? (i := 50) (by decide +kernel))
theorem st_sr (i : Nat) (hi : i < 44) : Cond.stringRef (strK.getD i ("", 0, "")).1 (strK.getD i ("", 0, "")).2.1 (strK.getD i ("", 0, "")).2.2 ∈ lw_tbl := by
  match i, hi with
  | 0, _ => exact st_sr0
  | 1, _ => exact st_sr1
  | 2, _ => exact st_sr2
  | 3, _ => exact st_sr3
  | 4, _ => exact st_sr4
  | 5, _ => exact st_sr5
  | 6, _ => exact st_sr6
  | 7, _ => exact st_sr7
  | 8, _ => exact st_sr8
  | 9, _ => exact st_sr9
  | 10, _ => exact st_sr10
  | 11, _ => exact st_sr11
  | 12, _ => exact st_sr12
  | 13, _ => exact st_sr13
  | 14, _ => exact st_sr14
  | 15, _ => exact st_sr15
  | 16, _ => exact st_sr16
  | 17, _ => exact st_sr17
  | 18, _ => exact st_sr18
  | 19, _ => exact st_sr19
  | 20, _ => exact st_sr20
  | 21, _ => exact st_sr21
  | 22, _ => exact st_sr22
  | 23, _ => exact st_sr23
  | 24, _ => exact st_sr24
  | 25, _ => exact st_sr25
  | 26, _ => exact st_sr26
  | 27, _ => exact st_sr27
  | 28, _ => exact st_sr28
  | 29, _ => exact st_sr29
  | 30, _ => exact st_sr30
  | 31, _ => exact st_sr31
  | 32, _ => exact st_sr32
  | 33, _ => exact st_sr33
  | 34, _ => exact st_sr34
  | 35, _ => exact st_sr35
  | 36, _ => exact st_sr36
  | 37, _ => exact st_sr37
  | 38, _ => exact st_sr38
  | 39, _ => exact st_sr39
  | 40, _ => exact st_sr40
  | 41, _ => exact st_sr41
  | 42, _ => exact st_sr42
  | 43, _ => exact st_sr43
  | n + 44, h => omega
theorem st_len : ∀ i, i < 44 → strL i < 2 ^ 31 := by decide +kernel
theorem st_ss {s : State} {args : Array Value} {A : Nat → Prop} (hg : (Jvm.Cond.and given_1 narrow_1).before args s = true) (hts : ∀ w ∈ lw_tbl, w.before args s = true) (hA : ∀ a : Nat, a < s.heap.size → ¬ A a) (b : Nat) : ∃ sp : Nat → Nat, sp 1000 = b ∧ SX sp A s := by
  have hs : ∀ w ∈ givN, w.before args s = true := flat_of_before _ hg
  have h0 : ∀ i : Nat, ∃ q : Nat × Nat, i < 44 → (strTm i).eval args s none [] s = some (.ref q.1) ∧ va_O "java/lang/String" q.1 A s s.heap ∧ va_OF "java/lang/String" "coder" "B" (.int 0) q.1 A s s.heap ∧ va_OF "java/lang/String" "value" "[B" (.ref q.2) q.1 A s s.heap ∧ va_T .byte q.2 (strL i) (fun j => .int (strB i j)) A s s.heap := by
    intro i
    by_cases hi : i < 44
    · obtain ⟨a, c, cA, kA, q1, q2, q3, q4, q5, q6, -⟩ := Cond.exactly_spec (args := args) (first := s) (o := none) (s := s) (idx := []) (t := strTm i) (cls := "java/lang/String") (hs _ (st_ex i hi))
      obtain ⟨t, ht, hT⟩ := va_Tof (f := fun j => .int (strB i j)) (A := A) (st_len i hi) (hs _ (st_ar i hi)) (va_eqt (hs _ (st_le i hi))) (fun j hj => va_eqt (hs _ (st_el i hi j hj))) hA
      exact ⟨(a, t), fun _ => ⟨q1, ⟨cA, q3, q5, by rw [q6]; exact q2, hA a (Array.getElem?_eq_some_iff.mp q3).1⟩, vk_OFof q1 (va_eqt (hs _ (st_co i hi))) hA, vk_OFof q1 ht hA, hT⟩⟩
    · exact ⟨(0, 0), fun h => absurd h hi⟩
  obtain ⟨ad, had⟩ := Classical.axiomOfChoice h0
  have hF := va_Zqof (A := A) (hts _ (in_t2 (List.mem_of_getElem? (i := 220) (by decide +kernel)))) (hts _ (in_t1 (List.mem_of_getElem? (i := 16) (by decide +kernel)))) (hs (.isRef (.static "jdk/internal/util/Preconditions" "SIOOBE_FORMATTER" "Ljava/util/function/BiFunction;")) (List.mem_of_getElem? (i := 5) (by decide +kernel))) hA
  obtain ⟨t2, ht2⟩ : ∃ t2 : Nat, va_Z "jdk/internal/util/Preconditions" "SIOOBE_FORMATTER" "Ljava/util/function/BiFunction;" .null A s s.heap ∨ va_Z "jdk/internal/util/Preconditions" "SIOOBE_FORMATTER" "Ljava/util/function/BiFunction;" (.ref t2) A s s.heap := by
    rcases hF with z | ⟨t, z⟩
    · exact ⟨0, Or.inl z⟩
    · exact ⟨t, Or.inr z⟩
  refine ⟨fun i => if i < 44 then (ad i).1 else if i < 200 then (ad (i - 100)).2 else if i = 200 then t2 else b, by simp, ⟨⟨fun i hi => ?_, ?_, ?_, ?_, ?_⟩, fun i q hq => ?_, ?_⟩⟩
  · have e1 : ¬ (100 + i < 44) := by omega
    have e2 : 100 + i < 200 := by omega
    simp only [if_pos hi, if_neg e1, if_pos e2, Nat.add_sub_cancel_left]
    exact (had i hi).2
  · exact va_Zof (hts _ (in_t2 (List.mem_of_getElem? (i := 204) (by decide +kernel)))) (hts _ (in_t1 (List.mem_of_getElem? (i := 14) (by decide +kernel)))) (va_eqt (hs (.eq (.static "java/lang/String" "COMPACT_STRINGS" "Z") (.int 1)) (List.mem_of_getElem? (i := 4) (by decide +kernel)))) hA
  · exact ht2
  · exact vx_Zqof (hts _ (in_t5 (List.mem_of_getElem? (i := 218) (by decide +kernel)))) (hts _ (in_t1 (List.mem_of_getElem? (i := 19) (by decide +kernel)))) (hs (.isRef (.static Bundle.tN "UNASSIGNED_STACK" Bundle.steD)) (List.mem_of_getElem? (i := 9) (by decide +kernel))) hA
  · exact vx_Zqof (hts _ (in_t5 (List.mem_of_getElem? (i := 220) (by decide +kernel)))) (hts _ (in_t1 (List.mem_of_getElem? (i := 19) (by decide +kernel)))) (hs (.isRef (.static Bundle.tN "SUPPRESSED_SENTINEL" Bundle.listD)) (List.mem_of_getElem? (i := 10) (by decide +kernel))) hA
  · have hi : i < 44 := (List.getElem?_eq_some_iff.mp hq).1
    simp only [if_pos hi]
    have e1 : strK.getD i ("", 0, "") = q := by rw [List.getD_eq_getElem?_getD, hq]; rfl
    have h1 := hts _ (st_sr i hi)
    have h2 := (had i hi).1
    unfold strTm at h2
    rw [e1] at h1 h2
    exact vk_R.of h1 h2
  · refine ⟨fun q hq => va_Nw.of rfl (hts _ ?_), va_AO.of (hts _ ?_), fun q hq => va_Nw.of rfl (hts _ ?_), va_Nw.of rfl (hts _ ?_)⟩
    · exact (by decide +kernel : ∀ q ∈ nestL, Cond.methodLinkNest q.1 q.2.1 q.2.2.1 q.2.2.2 ∈ lw_tbl) q hq
    · exact (by decide +kernel : Cond.arrayOver (.object "GlassWatch$Keeping") ∈ lw_tbl)
    · exact (by decide +kernel : ∀ q ∈ exD, Cond.declares q ∈ lw_tbl) q hq
    · exact (by decide +kernel : Cond.castable "java/util/NoSuchElementException" "java/util/NoSuchElementException" ∈ lw_tbl)
theorem st_arr {s : State} {args : Array Value} {ty : FieldType} (h : (Cond.arrayClass ty).before args s = true) (hty : ∀ C, ty ≠ .object C) : ∃ c : Nat, ArrOfT s c ty ∧ va_RA s c ty := by
  obtain ⟨c, k, comp, h1, h2, h3⟩ := Cond.arrayClass_spec h
  refine ⟨c, fun n z => ⟨fun k h => (by cases h), k, h2, comp, h3⟩, ?_⟩
  cases ty with
  | object C => exact absurd rfl (hty C)
  | _ => exact h1
theorem st_K {s : State} {args : Array Value} (hts : ∀ w ∈ lw_tbl, w.before args s = true) : ∃ (D : va_G) (ks : Nat → Nat), va_K D vwCl (tysO ks) s := by
  have hT : ∀ w ∈ TB, w.before args s = true := fun w hw => hts w (List.mem_filter.mp hw).1
  obtain ⟨c0, iS0, hKn0⟩ := u_known (C := RX0) (T := TX0) (N := 3) (n := 3) hT ux0 (hts (.instantiable RX0 3) (in_t1 (List.mem_of_getElem? (i := 221) (by decide +kernel))))
  obtain ⟨c1, iS1, hKn1⟩ := u_known (C := RX1) (T := TX1) (N := 2) (n := 2) hT ux1 (hts (.instantiable RX1 2) (in_t2 (List.mem_of_getElem? (i := 58) (by decide +kernel))))
  obtain ⟨c2, iS2, hKn2⟩ := u_known (C := RX2) (T := TX2) (N := 3) (n := 3) hT ux2 (hts (.instantiable RX2 3) (in_t2 (List.mem_of_getElem? (i := 88) (by decide +kernel))))
  obtain ⟨c3, iS3, hKn3⟩ := u_known (C := RX3) (T := TX3) (N := 2) (n := 2) hT ux3 (hts (.instantiable RX3 2) (in_t2 (List.mem_of_getElem? (i := 73) (by decide +kernel))))
  obtain ⟨c4, iS4, hKn4⟩ := u_known (C := RX4) (T := TX4) (N := 3) (n := 3) hT ux4 (hts (.instantiable RX4 3) (in_t1 (List.mem_of_getElem? (i := 194) (by decide +kernel))))
  obtain ⟨c5, iS5, hKn5⟩ := u_known (C := RX5) (T := TX5) (N := 13) (n := 13) hT ux5 (hts (.instantiable RX5 13) (in_t1 (List.mem_of_getElem? (i := 145) (by decide +kernel))))
  obtain ⟨c6, iS6, hKn6⟩ := u_known (C := RX6) (T := TX6) (N := 5) (n := 5) hT ux6 (hts (.instantiable RX6 5) (in_t2 (List.mem_of_getElem? (i := 0) (by decide +kernel))))
  obtain ⟨c7, iS7, hKn7⟩ := u_known (C := RX7) (T := TX7) (N := 4) (n := 4) hT ux7 (hts (.instantiable RX7 4) (in_t2 (List.mem_of_getElem? (i := 6) (by decide +kernel))))
  obtain ⟨c8, iS8, hKn8⟩ := u_known (C := RX8) (T := TX8) (N := 4) (n := 4) hT ux8 (hts (.instantiable RX8 4) (in_t1 (List.mem_of_getElem? (i := 38) (by decide +kernel))))
  obtain ⟨c9, iS9, hKn9⟩ := u_known (C := RX9) (T := TX9) (N := 12) (n := 12) hT ux9 (hts (.instantiable RX9 12) (in_t1 (List.mem_of_getElem? (i := 32) (by decide +kernel))))
  obtain ⟨c10, iS10, hKn10⟩ := u_known (C := RX10) (T := TX10) (N := 15) (n := 15) hT ux10 (hts (.instantiable RX10 15) (in_t1 (List.mem_of_getElem? (i := 24) (by decide +kernel))))
  obtain ⟨c11, iS11, hKn11⟩ := u_known (C := RX11) (T := TX11) (N := 45) (n := 45) hT ux11 (hts (.instantiable RX11 45) (in_t6 (List.mem_of_getElem? (i := 13) (by decide +kernel))))
  obtain ⟨k0, a0, b0⟩ := st_arr (ty := .byte) (hts _ (in_t1 (List.mem_of_getElem? (i := 67) (by decide +kernel)))) (fun _ h => by cases h)
  obtain ⟨k1, a1, b1⟩ := st_arr (ty := .int) (hts _ (in_t1 (List.mem_of_getElem? (i := 68) (by decide +kernel)))) (fun _ h => by cases h)
  obtain ⟨k2, a2, b2⟩ := st_arr (ty := .long) (hts _ (in_t1 (List.mem_of_getElem? (i := 192) (by decide +kernel)))) (fun _ h => by cases h)
  obtain ⟨comp, k3, kk, f1, -, f2, f3, f4⟩ := Cond.arrayOver_spec (hts (.arrayOver (.object "GlassWatch$Keeping")) (by decide +kernel))
  refine ⟨(fun k => [c0, c1, c2, c3, c4, c5, c6, c7, c8, c9, c10, c11].getD k 0, fun k => ([iS0, iS1, iS2, iS3, iS4, iS5, iS6, iS7, iS8, iS9, iS10, iS11] : List (Nat → Nat)).getD k (fun _ => 0)), fun k => [k0, k1, k2, k3].getD k 0, fun c q hq => ?_, fun k q hq => ?_⟩
  · match c, hq with
    | 0, hq => cases hq; exact hKn0
    | 1, hq => cases hq; exact hKn1
    | 2, hq => cases hq; exact hKn2
    | 3, hq => cases hq; exact hKn3
    | 4, hq => cases hq; exact hKn4
    | 5, hq => cases hq; exact hKn5
    | 6, hq => cases hq; exact hKn6
    | 7, hq => cases hq; exact hKn7
    | 8, hq => cases hq; exact hKn8
    | 9, hq => cases hq; exact hKn9
    | 10, hq => cases hq; exact hKn10
    | 11, hq => cases hq; exact hKn11
    | c + 12, hq => simp [vwCl] at hq
  · match k, hq with
    | 0, hq => cases hq; exact ⟨a0, b0⟩
    | 1, hq => cases hq; exact ⟨a1, b1⟩
    | 2, hq => cases hq; exact ⟨a2, b2⟩
    | 3, hq => cases hq; exact ⟨fun n z => ⟨fun k h => (by cases h), kk, f2, comp, f3⟩, kk, comp, f2, f3, f1, f4⟩
    | k + 4, hq => simp [tysO] at hq
def hp0 : Hp := (0, fun _ => .inr (0, []))
/-- THE LAW OUT OF ITS PLAIN FUNCTION -/
theorem law_start {p : Program} {e : Env} {s : State} {m : MethodId} {below : List Frame} {meth : Method} {c : Code} (l : Launch) (hst : l.stackTraces = false) {b L : Nat} {xs : Nat → Int32} (C0 : lw_At p s m meth c b L xs) (hin : meth.name = "law") (H : L_law L xs hp0 = some ()) : W p l e room_1 s m #[Value.ref b] below meth c s.heap [] 0 0 (lw_Z below #[Value.ref b] s) (entryFrame m ([Value.ref b] : List Value).toArray 7) := by
  obtain ⟨hx, hb, hr, hml, hown, hts, hX, hbl, hlocks, hgv⟩ := id C0
  have hA0 : ∀ a : Nat, a < s.heap.size → ¬ (fun q : Nat => s.heap.size ≤ q) a := fun a h => Nat.not_le.mpr h
  obtain ⟨sp, hb1, hSX⟩ := st_ss (A := fun q : Nat => s.heap.size ≤ q) hgv hts hA0 b
  obtain ⟨D, ks, hK⟩ := st_K hts
  have hl := lv_entry ([.ref b]) (n := 7) (Nat.le_of_ble_eq_true rfl)
  rw [lg_entry_eq]
  subst hb1
  exact L_law_ok H p l e s m #[Value.ref (sp 1000)] below meth c D ks sp (fun _ => 0) 0 (fun q : Nat => s.heap.size ≤ q) _ ⟨rfl, rfl, hX, hbl, rfl, rfl, hst⟩ ⟨hx, hb, hml, hr, hown, fun w hw => hts w (List.mem_filter.mp hw).1, hK, fun q h => h, hSX, hlocks, hin⟩ (fun _ => 0) s.heap [] _ ⟨fun k q h => by simp [wsO, hp0] at h, ⟨fun i j p q h => by simp [wsO, hp0] at h, fun k q h => by simp [wsO, hp0] at h⟩, va_S.rf, fun i hi => absurd hi (Nat.not_lt_zero _), Nat.le_refl _, fun i hi => absurd hi (Nat.not_lt_zero _)⟩ hl ⟨trivial, trivial⟩ trivial
