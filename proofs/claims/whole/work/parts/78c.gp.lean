/-! what is read stays good -/
section
variable {T : Nat → Nat} {s p : Nat} {V : Nat → Nat → Nat} {t : Nat} {G : Nat → Option Nat}
theorem nx_le (hp : p ≤ s) : p ≤ nxq T s p ∧ nxq T s p ≤ s := by
  have h1 := stp_ok (T := T) hp
  have h2 := nxq_ok (T := T) hp
  omega
theorem gp_ad (g : GP T V) (ht : t < 7) (hc : V 20 t < cap t) (hg : GG t G) (h11 : V 20 11 ≠ 0)
    (H0 : t = 0 → ad V t G 0 (V 20 t) < 3 ∧ ad V t G 1 (V 20 t) ≤ 20)
    (H1 : t = 1 → 1 ≤ ad V t G 2 (V 20 t) ∧ ad V t G 2 (V 20 t) ≤ 9)
    (H2 : t = 2 → ad V t G 11 (V 20 t) < V 20 0 ∧ ad V t G 3 (V 20 t) < V 20 1 ∧ ad V t G 12 (V 20 t) < 4 ∧ ad V t G 4 (V 20 t) ≤ 9)
    (H3 : t = 3 → 1 ≤ ad V t G 5 (V 20 t) ∧ ad V t G 5 (V 20 t) ≤ 12 ∧ ∀ i, i < V 20 t → V 5 i ≠ ad V t G 5 (V 20 t))
    (H4 : t = 4 → ad V t G 17 (V 20 t) < 200 ∧ ad V t G 18 (V 20 t) < 200 ∧ ad V t G 6 (V 20 t) = 1000 * (ad V t G 17 (V 20 t) + 300) + ad V t G 18 (V 20 t) + 300)
    (H5 : t = 5 → ad V t G 7 (V 20 t) < V 20 0 ∧ ad V t G 8 (V 20 t) ≤ 20)
    (H6 : t = 6 → ad V t G 9 (V 20 t) ≤ 12 ∧ ad V t G 21 (V 20 t) < 200 ∧ ad V t G 22 (V 20 t) < 200 ∧ ad V t G 10 (V 20 t) = 1000 * (ad V t G 21 (V 20 t) + 300) + ad V t G 22 (V 20 t) + 300)
    (HN : t < 2 → 1 ≤ ad V t G (15 + t) (V 20 t) ∧ ad V t G (15 + t) (V 20 t) ≤ 8 ∧ ∀ k, k < ad V t G (15 + t) (V 20 t) → 97 ≤ T (ad V t G (13 + t) (V 20 t) + k) ∧ T (ad V t G (13 + t) (V 20 t) + k) ≤ 122)
    (HX : t = 0 → ∀ o, o < V 20 1 → ¬ (ad V t G 15 (V 20 t) = V 16 o ∧ ∀ k, k < ad V t G 15 (V 20 t) → T (ad V t G 13 (V 20 t) + k) = T (V 14 o + k)))
    (HY : t = 1 → ∀ b, b < V 20 0 → ¬ (V 15 b = ad V t G 16 (V 20 t) ∧ ∀ k, k < V 15 b → T (V 13 b + k) = T (ad V t G 14 (V 20 t) + k))) : GP T (ad V t G) := by
  obtain ⟨g1, g2, g3, g4, g5, g6, g7, g8, g9, g10, g11, g12, g13, g14⟩ := g
  have C : ∀ t', t' ≠ t → ad V t G 20 t' = V 20 t' := fun t' h => ad_o h
  have O : ∀ t', t' < 7 → t' ≠ t → ∀ a, a < 23 → a ≠ 20 → own t' a = true → ∀ i, ad V t G a i = V a i := fun t' h1 h2 a ha h20 ho i => ad_ot hg h20 (by
    cases e : own t a with
    | false => rfl
    | true => have := own_1 t ht t' h1 (Ne.symm h2) a ha e; rw [ho] at this; cases this)
  have L : ∀ a i, a ≠ 20 → i ≠ V 20 t → ad V t G a i = V a i := fun a i h1 h2 => ad_lt h1 h2
  have M : ∀ t', t' < 12 → V 20 t' ≤ ad V t G 20 t' := fun t' _ => by
    by_cases e : t' = t
    · subst e; rw [ad_c]; omega
    · rw [C t' e]; exact Nat.le_refl _
  refine ⟨fun t' ht' => ?_, ?_, ?_, fun z => ?_, fun r hr i hi => ?_, fun i hi => ?_, fun i hi => ?_, fun i hi => ?_, fun i hi => ?_, fun i i' hi hi' e => ?_, fun i hi => ?_, fun i hi => ?_, fun i hi => ?_, fun b o hb ho => ?_⟩
  · by_cases e : t' = t
    · subst e; rw [ad_c]; omega
    · rw [C t' e]; exact g1 t' ht'
  · rw [C 7 (by omega), C 8 (by omega), C 9 (by omega), C 10 (by omega)]; exact g2
  · rw [C 11 (by omega)]; exact g3
  · rw [C 11 (by omega)] at z; exact absurd z h11
  · by_cases e : r = t
    · subst e
      rw [ad_c] at hi
      by_cases y : i = V 20 r
      · rw [y]; exact HN (by omega)
      · rw [L _ i (by omega) y, L _ i (by omega) y]; exact g5 r hr i (by omega)
    · rw [C r e] at hi
      have o1 : own r (15 + r) = true := by rcases Nat.lt_or_ge r 1 with a | a
                                            · rw [show r = 0 by omega]; rfl
                                            · rw [show r = 1 by omega]; rfl
      have o2 : own r (13 + r) = true := by rcases Nat.lt_or_ge r 1 with a | a
                                            · rw [show r = 0 by omega]; rfl
                                            · rw [show r = 1 by omega]; rfl
      rw [O r (by omega) e _ (by omega) (by omega) o1, O r (by omega) e _ (by omega) (by omega) o2]; exact g5 r hr i hi
  · by_cases e : 0 = t
    · subst e
      rw [ad_c] at hi
      by_cases y : i = V 20 0
      · rw [y]; exact H0 rfl
      · rw [L _ i (by omega) y, L _ i (by omega) y]; exact g6 i (by omega)
    · rw [C 0 e] at hi
      rw [O 0 (by omega) e 0 (by omega) (by omega) rfl, O 0 (by omega) e 1 (by omega) (by omega) rfl]; exact g6 i hi
  · by_cases e : 1 = t
    · subst e
      rw [ad_c] at hi
      by_cases y : i = V 20 1
      · rw [y]; exact H1 rfl
      · rw [L _ i (by omega) y]; exact g7 i (by omega)
    · rw [C 1 e] at hi
      rw [O 1 (by omega) e 2 (by omega) (by omega) rfl]; exact g7 i hi
  · have m0 := M 0 (by omega)
    have m1 := M 1 (by omega)
    by_cases e : 2 = t
    · subst e
      rw [ad_c] at hi
      by_cases y : i = V 20 2
      · rw [y]; have := H2 rfl; omega
      · rw [L _ i (by omega) y, L _ i (by omega) y, L _ i (by omega) y, L _ i (by omega) y]; have := g8 i (by omega); omega
    · rw [C 2 e] at hi
      rw [O 2 (by omega) e 11 (by omega) (by omega) rfl, O 2 (by omega) e 3 (by omega) (by omega) rfl, O 2 (by omega) e 12 (by omega) (by omega) rfl, O 2 (by omega) e 4 (by omega) (by omega) rfl]; have := g8 i hi; omega
  · by_cases e : 3 = t
    · subst e
      rw [ad_c] at hi
      by_cases y : i = V 20 3
      · rw [y]; exact ⟨(H3 rfl).1, (H3 rfl).2.1⟩
      · rw [L _ i (by omega) y]; exact g9 i (by omega)
    · rw [C 3 e] at hi
      rw [O 3 (by omega) e 5 (by omega) (by omega) rfl]; exact g9 i hi
  · by_cases q : 3 = t
    · subst q
      rw [ad_c] at hi hi'
      by_cases y : i = V 20 3
      · by_cases y' : i' = V 20 3
        · omega
        · rw [y, L _ i' (by omega) y'] at e
          exact absurd e.symm ((H3 rfl).2.2 i' (by omega))
      · by_cases y' : i' = V 20 3
        · rw [y', L _ i (by omega) y] at e
          exact absurd e ((H3 rfl).2.2 i (by omega))
        · rw [L _ i (by omega) y, L _ i' (by omega) y'] at e
          exact g10 i i' (by omega) (by omega) e
    · rw [C 3 q] at hi hi'
      rw [O 3 (by omega) q 5 (by omega) (by omega) rfl, O 3 (by omega) q 5 (by omega) (by omega) rfl] at e
      exact g10 i i' hi hi' e
  · by_cases e : 4 = t
    · subst e
      rw [ad_c] at hi
      by_cases y : i = V 20 4
      · rw [y]; exact H4 rfl
      · rw [L _ i (by omega) y, L _ i (by omega) y, L _ i (by omega) y]; exact g11 i (by omega)
    · rw [C 4 e] at hi
      rw [O 4 (by omega) e 17 (by omega) (by omega) rfl, O 4 (by omega) e 18 (by omega) (by omega) rfl, O 4 (by omega) e 6 (by omega) (by omega) rfl]; exact g11 i hi
  · have m0 := M 0 (by omega)
    by_cases e : 5 = t
    · subst e
      rw [ad_c] at hi
      by_cases y : i = V 20 5
      · rw [y]; have := H5 rfl; omega
      · rw [L _ i (by omega) y, L _ i (by omega) y]; have := g12 i (by omega); omega
    · rw [C 5 e] at hi
      rw [O 5 (by omega) e 7 (by omega) (by omega) rfl, O 5 (by omega) e 8 (by omega) (by omega) rfl]; have := g12 i hi; omega
  · by_cases e : 6 = t
    · subst e
      rw [ad_c] at hi
      by_cases y : i = V 20 6
      · rw [y]; exact H6 rfl
      · rw [L _ i (by omega) y, L _ i (by omega) y, L _ i (by omega) y, L _ i (by omega) y]; exact g13 i (by omega)
    · rw [C 6 e] at hi
      rw [O 6 (by omega) e 9 (by omega) (by omega) rfl, O 6 (by omega) e 21 (by omega) (by omega) rfl, O 6 (by omega) e 22 (by omega) (by omega) rfl, O 6 (by omega) e 10 (by omega) (by omega) rfl]; exact g13 i hi
  · by_cases e0 : 0 = t
    · subst e0
      rw [ad_c] at hb
      rw [C 1 (by omega)] at ho
      rw [O 1 (by omega) (by omega) 16 (by omega) (by omega) rfl, O 1 (by omega) (by omega) 14 (by omega) (by omega) rfl]
      by_cases y : b = V 20 0
      · rw [y]; exact HX rfl o ho
      · rw [L _ b (by omega) y, L _ b (by omega) y]; exact g14 b o (by omega) ho
    · rw [C 0 e0] at hb
      rw [O 0 (by omega) e0 15 (by omega) (by omega) rfl, O 0 (by omega) e0 13 (by omega) (by omega) rfl]
      by_cases e1 : 1 = t
      · subst e1
        rw [ad_c] at ho
        by_cases y : o = V 20 1
        · rw [y]; exact HY rfl b hb
        · rw [L _ o (by omega) y, L _ o (by omega) y]; exact g14 b o hb (by omega)
      · rw [C 1 e1] at ho
        rw [O 1 (by omega) e1 16 (by omega) (by omega) rfl, O 1 (by omega) e1 14 (by omega) (by omega) rfl]; exact g14 b o hb ho
/-- a line leaves it good, or tells a fault -/
def OKP (T : Nat → Nat) (s p : Nat) (o : Out) : Prop := match o with
  | Sum.inl (f, _) => f ≠ 0 ∧ f < 8
  | Sum.inr (V, q) => GP T V ∧ V 20 11 = 1 ∧ p ≤ q ∧ q ≤ s
theorem op_nd {f q : Nat} {K : Out} (hf : f < 8) (h : f = 0 → OKP T s p K) : OKP T s p (nd T s f q K) := by
  by_cases z : f = 0
  · rw [nd_0 z]; exact h z
  · rw [nd_1 z]; exact ⟨z, hf⟩
theorem fWd_lt (k q : Nat) : fWd T s k q < 8 := by unfold fWd; split <;> omega
theorem fNm_lt (a b q : Nat) : fNm T s a b q < 8 := by
  unfold fNm
  repeat' split
  all_goals omega
theorem fNew_lt (q : Nat) : fNew T s V q < 8 := by
  unfold fNew
  repeat' split
  all_goals omega
theorem fOld_lt (r q : Nat) : fOld T s V r q < 8 := by
  unfold fOld
  repeat' split
  all_goals omega
theorem fKd_lt (q : Nat) : fKd T s q < 8 := by unfold fKd; split <;> omega
theorem fCo_lt (q : Nat) : fCo T s q < 8 := by unfold fCo; split <;> omega
theorem fDu_lt (r N x : Nat) : fDu V r N x < 8 := by unfold fDu; split <;> omega
theorem fNew_0 (h : fNew T s V p = 0) : srt T s p = 1 ∧ bgs T s p = false ∧ (∀ i, i < V 20 0 → nmB T s V 0 p i = false) ∧ ∀ i, i < V 20 1 → nmB T s V 1 p i = false := by
  unfold fNew at h
  split at h
  · rename_i hz
    split at h
    · cases h
    · rename_i hk
      obtain ⟨k0, k1⟩ := not_or.mp hk
      have f0 := fdx_ok (nmB T s V 0 p) (V 20 0)
      have f1 := fdx_ok (nmB T s V 1 p) (V 20 1)
      exact ⟨hz.1, hz.2, fun i hi => f0.2.1 i (by omega), fun i hi => f1.2.1 i (by omega)⟩
  · cases h
theorem fOld_0 {r : Nat} (h : fOld T s V r p = 0) : srt T s p = 1 ∧ bgs T s p = false ∧ fix T s V r p < V 20 r := by
  unfold fOld at h
  split at h
  · rename_i hz
    split at h
    · rename_i hk; exact ⟨hz.1, hz.2, hk⟩
    · cases h
  · cases h
theorem op_boy (hp : p ≤ s) (g : GP T V) (h11 : V 20 11 = 1) (hN : V 20 0 < 5) : OKP T s p (lnBoy T s V p) := by
  have a1 := nx_le (T := T) hp
  have a2 := nx_le (T := T) a1.2
  have a3 := nx_le (T := T) a2.2
  have a4 := nx_le (T := T) a3.2
  unfold lnBoy
  refine op_nd (fNew_lt _) fun z0 => op_nd (fKd_lt _) fun z1 => op_nd (fWd_lt _ _) fun z2 => op_nd (fNm_lt _ _ _) fun z3 => ⟨?_, by rw [ad_o (by decide)]; exact h11, by omega, a4.2⟩
  obtain ⟨n1, n2, n3, n4⟩ := fNew_0 z0
  obtain ⟨l1, l2, l3⟩ := let_ok hp n1
  have hk : kdx T s (nxq T s p) < 3 := by
    unfold fKd at z1; split at z1
    · assumption
    · cases z1
  have w3 := whn_ok (by decide) (by decide) z3
  have A : ∀ a x, a ≠ 20 → gBoy (kdx T s (nxq T s p)) (whn T s (nxq T s (nxq T s (nxq T s p)))) (stp T s p) (nxq T s p - stp T s p) a = some x → ad V 0 (gBoy (kdx T s (nxq T s p)) (whn T s (nxq T s (nxq T s (nxq T s p)))) (stp T s p) (nxq T s p - stp T s p)) a (V 20 0) = x := fun a x h1 h2 => ad_at h1 h2
  refine gp_ad g (by decide) hN (gg_Boy _ _ _ _) (by omega) (fun _ => ?_) (fun z => absurd z (by decide)) (fun z => absurd z (by decide)) (fun z => absurd z (by decide)) (fun z => absurd z (by decide)) (fun z => absurd z (by decide)) (fun z => absurd z (by decide)) (fun _ => ?_) (fun _ o ho => ?_) (fun z => absurd z (by decide))
  · rw [A 0 _ (by decide) rfl, A 1 _ (by decide) rfl]; exact ⟨hk, w3.2.2.2⟩
  · rw [A (15 + 0) _ (by decide) rfl, A (13 + 0) _ (by decide) rfl]; exact ⟨l1, l2, l3⟩
  · rw [A 15 _ (by decide) rfl, A 13 _ (by decide) rfl]
    rintro ⟨x1, x2⟩
    have := of_decide_eq_false (n4 o ho)
    exact this ⟨x1, fun k hk => x2 k (by rw [x1]; exact hk)⟩
theorem op_off (hp : p ≤ s) (g : GP T V) (h11 : V 20 11 = 1) (hN : V 20 1 < 4) : OKP T s p (lnOff T s V p) := by
  have a1 := nx_le (T := T) hp
  have a2 := nx_le (T := T) a1.2
  have a3 := nx_le (T := T) a2.2
  unfold lnOff
  refine op_nd (fNew_lt _) fun z0 => op_nd (fWd_lt _ _) fun z2 => op_nd (fNm_lt _ _ _) fun z3 => ⟨?_, by rw [ad_o (by decide)]; exact h11, by omega, a3.2⟩
  obtain ⟨n1, n2, n3, n4⟩ := fNew_0 z0
  obtain ⟨l1, l2, l3⟩ := let_ok hp n1
  have w3 := whn_ok (by decide) (by decide) z3
  have A : ∀ a x, a ≠ 20 → gOff (whn T s (nxq T s (nxq T s p))) (stp T s p) (nxq T s p - stp T s p) a = some x → ad V 1 (gOff (whn T s (nxq T s (nxq T s p))) (stp T s p) (nxq T s p - stp T s p)) a (V 20 1) = x := fun a x h1 h2 => ad_at h1 h2
  refine gp_ad g (by decide) hN (gg_Off _ _ _) (by omega) (fun z => absurd z (by decide)) (fun _ => ?_) (fun z => absurd z (by decide)) (fun z => absurd z (by decide)) (fun z => absurd z (by decide)) (fun z => absurd z (by decide)) (fun z => absurd z (by decide)) (fun _ => ?_) (fun z => absurd z (by decide)) (fun _ b hb => ?_)
  · rw [A 2 _ (by decide) rfl]; exact w3.2.2
  · rw [A (15 + 1) _ (by decide) rfl, A (13 + 1) _ (by decide) rfl]; exact ⟨l1, l2, l3⟩
  · rw [A 16 _ (by decide) rfl, A 14 _ (by decide) rfl]
    rintro ⟨x1, x2⟩
    have := of_decide_eq_false (n3 b hb)
    exact this ⟨x1.symm, fun k hk => (x2 k hk).symm⟩
theorem op_wat (hp : p ≤ s) (g : GP T V) (h11 : V 20 11 = 1) (hN : V 20 2 < 12) : OKP T s p (lnWat T s V p) := by
  have a1 := nx_le (T := T) hp
  have a2 := nx_le (T := T) a1.2
  have a3 := nx_le (T := T) a2.2
  have a4 := nx_le (T := T) a3.2
  have a5 := nx_le (T := T) a4.2
  unfold lnWat
  refine op_nd (fOld_lt _ _) fun z0 => op_nd (fOld_lt _ _) fun z1 => op_nd (fCo_lt _) fun z2 => op_nd (fWd_lt _ _) fun z3 => op_nd (fNm_lt _ _ _) fun z4 => ⟨?_, by rw [ad_o (by decide)]; exact h11, by omega, a5.2⟩
  have hk : cox T s (nxq T s (nxq T s p)) < 4 := by
    unfold fCo at z2; split at z2
    · assumption
    · cases z2
  have w4 := whn_ok (by decide) (by decide) z4
  have A : ∀ a x, a ≠ 20 → gWat (fix T s V 0 p) (fix T s V 1 (nxq T s p)) (cox T s (nxq T s (nxq T s p))) (whn T s (nxq T s (nxq T s (nxq T s (nxq T s p))))) a = some x → ad V 2 (gWat (fix T s V 0 p) (fix T s V 1 (nxq T s p)) (cox T s (nxq T s (nxq T s p))) (whn T s (nxq T s (nxq T s (nxq T s (nxq T s p)))))) a (V 20 2) = x := fun a x h1 h2 => ad_at h1 h2
  refine gp_ad g (by decide) hN (gg_Wat _ _ _ _) (by omega) (fun z => absurd z (by decide)) (fun z => absurd z (by decide)) (fun _ => ?_) (fun z => absurd z (by decide)) (fun z => absurd z (by decide)) (fun z => absurd z (by decide)) (fun z => absurd z (by decide)) (fun z => absurd z (by decide)) (fun z => absurd z (by decide)) (fun z => absurd z (by decide))
  rw [A 11 _ (by decide) rfl, A 3 _ (by decide) rfl, A 12 _ (by decide) rfl, A 4 _ (by decide) rfl]
  exact ⟨(fOld_0 z0).2.2, (fOld_0 z1).2.2, hk, w4.2.2.2⟩
theorem op_noo (hp : p ≤ s) (g : GP T V) (h11 : V 20 11 = 1) (hN : V 20 3 < 4) : OKP T s p (lnNoo T s V p) := by
  have a1 := nx_le (T := T) hp
  have a2 := nx_le (T := T) a1.2
  unfold lnNoo
  refine op_nd (fWd_lt _ _) fun z0 => op_nd (fNm_lt _ _ _) fun z1 => op_nd (fDu_lt _ _ _) fun z2 => ⟨?_, by rw [ad_o (by decide)]; exact h11, by omega, a2.2⟩
  have w1 := whn_ok (by decide) (by decide) z1
  have A : ∀ a x, a ≠ 20 → gNoo (whn T s (nxq T s p)) a = some x → ad V 3 (gNoo (whn T s (nxq T s p))) a (V 20 3) = x := fun a x h1 h2 => ad_at h1 h2
  refine gp_ad g (by decide) hN (gg_Noo _) (by omega) (fun z => absurd z (by decide)) (fun z => absurd z (by decide)) (fun z => absurd z (by decide)) (fun _ => ?_) (fun z => absurd z (by decide)) (fun z => absurd z (by decide)) (fun z => absurd z (by decide)) (fun z => absurd z (by decide)) (fun z => absurd z (by decide)) (fun z => absurd z (by decide))
  rw [A 5 _ (by decide) rfl]
  exact ⟨w1.2.2.1, w1.2.2.2, fun i hi e => du0 z2 ⟨i, hi, e⟩⟩
theorem op_sho (hp : p ≤ s) (g : GP T V) (h11 : V 20 11 = 1) (hN : V 20 4 < 6) : OKP T s p (lnSho T s V p) := by
  have a1 := nx_le (T := T) hp
  have a2 := nx_le (T := T) a1.2
  unfold lnSho
  refine op_nd (fNm_lt _ _ _) fun z0 => op_nd (fNm_lt _ _ _) fun z1 => op_nd (fDu_lt _ _ _) fun z2 => ⟨?_, by rw [ad_o (by decide)]; exact h11, by omega, a2.2⟩
  have w0 := whn_ok (by decide) (by decide) z0
  have w1 := whn_ok (by decide) (by decide) z1
  have A : ∀ a x, a ≠ 20 → gSho (whn T s p) (whn T s (nxq T s p)) a = some x → ad V 4 (gSho (whn T s p) (whn T s (nxq T s p))) a (V 20 4) = x := fun a x h1 h2 => ad_at h1 h2
  refine gp_ad g (by decide) hN (gg_Sho _ _) (by omega) (fun z => absurd z (by decide)) (fun z => absurd z (by decide)) (fun z => absurd z (by decide)) (fun z => absurd z (by decide)) (fun _ => ?_) (fun z => absurd z (by decide)) (fun z => absurd z (by decide)) (fun z => absurd z (by decide)) (fun z => absurd z (by decide)) (fun z => absurd z (by decide))
  rw [A 17 _ (by decide) rfl, A 18 _ (by decide) rfl, A 6 _ (by decide) rfl]
  exact ⟨by omega, by omega, rfl⟩
theorem op_uns (hp : p ≤ s) (g : GP T V) (h11 : V 20 11 = 1) (hN : V 20 5 < 4) : OKP T s p (lnUns T s V p) := by
  have a1 := nx_le (T := T) hp
  have a2 := nx_le (T := T) a1.2
  unfold lnUns
  refine op_nd (fOld_lt _ _) fun z0 => op_nd (fDu_lt _ _ _) fun z1 => op_nd (fNm_lt _ _ _) fun z2 => ⟨?_, by rw [ad_o (by decide)]; exact h11, by omega, a2.2⟩
  have w2 := whn_ok (by decide) (by decide) z2
  have A : ∀ a x, a ≠ 20 → gUns (fix T s V 0 p) (whn T s (nxq T s p)) a = some x → ad V 5 (gUns (fix T s V 0 p) (whn T s (nxq T s p))) a (V 20 5) = x := fun a x h1 h2 => ad_at h1 h2
  refine gp_ad g (by decide) hN (gg_Uns _ _) (by omega) (fun z => absurd z (by decide)) (fun z => absurd z (by decide)) (fun z => absurd z (by decide)) (fun z => absurd z (by decide)) (fun z => absurd z (by decide)) (fun _ => ?_) (fun z => absurd z (by decide)) (fun z => absurd z (by decide)) (fun z => absurd z (by decide)) (fun z => absurd z (by decide))
  rw [A 7 _ (by decide) rfl, A 8 _ (by decide) rfl]
  exact ⟨(fOld_0 z0).2.2, w2.2.2.2⟩
theorem op_fou (hp : p ≤ s) (g : GP T V) (h11 : V 20 11 = 1) (hN : V 20 6 < 3) : OKP T s p (lnFou T s V p) := by
  have a1 := nx_le (T := T) hp
  have a2 := nx_le (T := T) a1.2
  have a3 := nx_le (T := T) a2.2
  have a4 := nx_le (T := T) a3.2
  unfold lnFou
  refine op_nd (fNm_lt _ _ _) fun z0 => op_nd (fDu_lt _ _ _) fun z1 => op_nd (fWd_lt _ _) fun z2 => op_nd (fNm_lt _ _ _) fun z3 => op_nd (fNm_lt _ _ _) fun z4 => ⟨?_, by rw [ad_o (by decide)]; exact h11, by omega, a4.2⟩
  have w0 := whn_ok (by decide) (by decide) z0
  have w3 := whn_ok (by decide) (by decide) z3
  have w4 := whn_ok (by decide) (by decide) z4
  have A : ∀ a x, a ≠ 20 → gFou (whn T s p) (whn T s (nxq T s (nxq T s p))) (whn T s (nxq T s (nxq T s (nxq T s p)))) a = some x → ad V 6 (gFou (whn T s p) (whn T s (nxq T s (nxq T s p))) (whn T s (nxq T s (nxq T s (nxq T s p))))) a (V 20 6) = x := fun a x h1 h2 => ad_at h1 h2
  refine gp_ad g (by decide) hN (gg_Fou _ _ _) (by omega) (fun z => absurd z (by decide)) (fun z => absurd z (by decide)) (fun z => absurd z (by decide)) (fun z => absurd z (by decide)) (fun z => absurd z (by decide)) (fun z => absurd z (by decide)) (fun _ => ?_) (fun z => absurd z (by decide)) (fun z => absurd z (by decide)) (fun z => absurd z (by decide))
  rw [A 9 _ (by decide) rfl, A 21 _ (by decide) rfl, A 22 _ (by decide) rfl, A 10 _ (by decide) rfl]
  exact ⟨by omega, by omega, by omega, rfl⟩
theorem vy_o {a b d e r i : Nat} (h : r ≠ 20) : vyg V a b d e r i = V r i := by unfold vyg; rw [sv_o h, sv_o h, sv_o h, sv_o h, sv_o h]
theorem vy_c {a b d e i : Nat} (h : i < 7) : vyg V a b d e 20 i = V 20 i := by unfold vyg; rw [sv_ne (by omega), sv_ne (by omega), sv_ne (by omega), sv_ne (by omega), sv_ne (by omega)]
theorem op_voy (hp : p ≤ s) (g : GP T V) : OKP T s p (lnVoy T s V p) := by
  have a1 := nx_le (T := T) hp
  have a2 := nx_le (T := T) a1.2
  have a3 := nx_le (T := T) a2.2
  have a4 := nx_le (T := T) a3.2
  have a5 := nx_le (T := T) a4.2
  have a6 := nx_le (T := T) a5.2
  have a7 := nx_le (T := T) a6.2
  unfold lnVoy
  refine op_nd (fWd_lt _ _) fun z0 => op_nd (fNm_lt _ _ _) fun z1 => op_nd (fNm_lt _ _ _) fun z2 => op_nd (fWd_lt _ _) fun z3 => op_nd (fNm_lt _ _ _) fun z4 => op_nd (fWd_lt _ _) fun z5 => op_nd (fNm_lt _ _ _) fun z6 => ⟨?_, by unfold vyg; rw [sv_ne (by omega), sv_ne (by omega), sv_ne (by omega), sv_ne (by omega), sv_at], by omega, a7.2⟩
  have w1 := whn_ok (by decide) (by decide) z1
  have w2 := whn_ok (by decide) (by decide) z2
  have w4 := whn_ok (by decide) (by decide) z4
  have w6 := whn_ok (by decide) (by decide) z6
  obtain ⟨g1, g2, g3, g4, g5, g6, g7, g8, g9, g10, g11, g12, g13, g14⟩ := g
  refine ⟨fun t ht => by rw [vy_c ht]; exact g1 t ht, ⟨?_, ?_, ?_, ?_⟩, ?_, ?_, fun r hr i hi => ?_, fun i hi => ?_, fun i hi => ?_, fun i hi => ?_, fun i hi => ?_, fun i i' hi hi' => ?_, fun i hi => ?_, fun i hi => ?_, fun i hi => ?_, fun b o hb ho => ?_⟩
  · unfold vyg; rw [sv_ne (by omega), sv_ne (by omega), sv_ne (by omega), sv_at]; omega
  · unfold vyg; rw [sv_ne (by omega), sv_ne (by omega), sv_at]; omega
  · unfold vyg; rw [sv_ne (by omega), sv_at]; omega
  · unfold vyg; rw [sv_at]; omega
  · unfold vyg; rw [sv_ne (by omega), sv_ne (by omega), sv_ne (by omega), sv_ne (by omega), sv_at]; omega
  · unfold vyg; rw [sv_ne (by omega), sv_ne (by omega), sv_ne (by omega), sv_ne (by omega), sv_at]; intro z; omega
  · rw [vy_c (by omega)] at hi; rw [vy_o (by omega), vy_o (by omega)]; exact g5 r hr i hi
  · rw [vy_c (by omega)] at hi; rw [vy_o (by omega), vy_o (by omega)]; exact g6 i hi
  · rw [vy_c (by omega)] at hi; rw [vy_o (by omega)]; exact g7 i hi
  · rw [vy_c (by omega)] at hi; rw [vy_c (i := 0) (by omega), vy_c (i := 1) (by omega), vy_o (by omega), vy_o (by omega), vy_o (by omega), vy_o (by omega)]; exact g8 i hi
  · rw [vy_c (by omega)] at hi; rw [vy_o (by omega)]; exact g9 i hi
  · rw [vy_c (by omega)] at hi hi'; rw [vy_o (by omega), vy_o (by omega)]; exact g10 i i' hi hi'
  · rw [vy_c (by omega)] at hi; rw [vy_o (by omega), vy_o (by omega), vy_o (by omega)]; exact g11 i hi
  · rw [vy_c (by omega)] at hi; rw [vy_c (i := 0) (by omega), vy_o (by omega), vy_o (by omega)]; exact g12 i hi
  · rw [vy_c (by omega)] at hi; rw [vy_o (by omega), vy_o (by omega), vy_o (by omega), vy_o (by omega)]; exact g13 i hi
  · rw [vy_c (by omega)] at hb ho; rw [vy_o (by omega), vy_o (by omega), vy_o (by omega), vy_o (by omega)]; exact g14 b o hb ho
end
