/-! Mirrors, the class: steps, the last one first -/
def sSum {α : Type} (sz : α → Nat) : List α → Nat
  | [] => 0
  | s :: r => sz s + sSum sz r
def SOk {α : Type} (L d a b : Nat) (f t g : Mem) (dep : Int) (sz : α → Nat) (o : α → List Int) (low : Int) : List α → Prop
  | [] => True
  | s :: r => 1 ≤ sz s ∧ SOk L d a b f t g dep sz o low r ∧ ((¬ insA t b 3 0 (low + (sSum sz (s :: r) : Nat) - 1) = 3 ∧ sz s = 1 ∧ ∀ (l : List Int) (Q : Option TV → Wd → Prop), l.length + (o s).length ≤ 1000 → VV L (d + 3) m_Sh_mirrorStep 0 [some (tA 18), some (tI (low + (sSum sz (s :: r) : Nat) - 1)), none, none] [] (WW f (PSt (a + 1) a 1 t l) g) Q = Q none (WW f (PSt (a + 1) a 1 t (l ++ o s)) g)) ∨ (insA t b 3 0 (low + (sSum sz (s :: r) : Nat) - 1) = 3 ∧ insA t b 6 0 (low + (sSum sz (s :: r) : Nat) - 1) = low + (sSum sz r : Nat) ∧ ∀ (l : List Int) (Q : Option TV → Wd → Prop), l.length + (o s).length ≤ 1000 → VV L (d + 3) m_Sh_mirrorParts 0 [some (tA 18), some (tI (low + (sSum sz (s :: r) : Nat) - 1)), some (tI dep), none, none, none] [] (WW f (PSt (a + 1) a 1 t l) g) Q = Q none (WW f (PSt (a + 1) a 1 t (l ++ o s)) g)))
section
variable {α : Type} {L d a b : Nat} {f t g : Mem} {Q : Option TV → Wd → Prop} {dep low high : Int} {sz : α → Nat} {o : α → List Int}
theorem ar_ms {low : Int} {S n k : Nat} (h1 : 1 ≤ S) (hl : 0 ≤ low ∧ low + S ≤ 40) (hn : n + (k + 1) ≤ 40) : ¬ (40 : Int) ≤ n ∧ ¬ low + (S : Nat) ≤ low ∧ w32 (low + (S : Nat) + -1) = low + (S : Nat) - 1 ∧ w32 ((n : Int) + 1) = ((n + 1 : Nat) : Int) := by
  refine ⟨by omega, by omega, ?_, ?_⟩ <;> rw [w32_id (by omega) (by omega)] <;> omega
theorem q_40 {low : Int} {S s r : Nat} (h : low + (S : Nat) ≤ 40) (e : S = s + r) : low + (r : Nat) ≤ 40 := by omega
theorem q_41 {n k : Nat} (h : n + (k + 1) ≤ 40) : n + 1 + k ≤ 40 := by omega
theorem l_mSteps (hTa : isT a) (hTb : isT b) (hne : ¬ b = a) (hf : (f 18 0).toNat = b) (h9 : t b 9 ≤ 40) (hlow : 0 ≤ low) : ∀ (r : List α) (l : List Int) (n : Nat), SOk L d a b f t g dep sz o low r → n + r.length ≤ 40 → low + (sSum sz r : Nat) ≤ 40 → l.length + (r.flatMap o).length ≤ 1000 → VV L (d + 4) m_Sh_mirrorSteps 6 [some (tA 18), some (tI low), some (tI high), some (tI dep), some (tI (low + (sSum sz r : Nat))), some (tI n)] [] (WW f (PSt (a + 1) a 1 t l) g) Q = Q none (WW f (PSt (a + 1) a 1 t (l ++ r.flatMap o)) g) := by
  have b0 := xT_0 hTb
  have h9' : ∀ l, PSt (a + 1) a 1 t l b 9 ≤ 40 := fun l => by rw [show PSt (a + 1) a 1 t l b 9 = t b 9 from PT_far (n := 0) hTa hTb hne (by omega)]; exact h9
  intro r
  induction r with
  | nil =>
    intro l n _ hn _ _
    have e : low + (sSum sz ([] : List α) : Nat) = low := by show low + ((0 : Nat) : Int) = low; omega
    rw [e, u_Sh_mirrorSteps_6, List.flatMap_nil, List.append_nil]
    by_cases h : (40 : Int) ≤ (n : Int)
    · simp only [u_Sh_mirrorSteps_8, u_Sh_mirrorSteps_10, u_Sh_mirrorSteps_68, ne_eq, not_false_eq_true, not_true_eq_false, true_and, and_true, true_or, or_true, eq_self, Option.toList_some, Option.toList_none, List.cons_append, List.nil_append, tc_0, tc_I, tc_L, tc_A, Nat.reduceAdd, Nat.reduceLeDiff, Nat.reduceEqDiff, Int.reduceEq, Int.reduceLT, Int.reduceLE, Int.reduceNeg, Int.reduceToNat, Int.cast_ofNat_Int, if_true, if_false, and_self, or_self, ite_self, bI_0, bI_1, bI_01, Bool.false_eq_true, reduceCtorEq, h]
    · simp only [u_Sh_mirrorSteps_8, u_Sh_mirrorSteps_10, u_Sh_mirrorSteps_13, u_Sh_mirrorSteps_15, u_Sh_mirrorSteps_16, u_Sh_mirrorSteps_68, ne_eq, not_false_eq_true, not_true_eq_false, true_and, and_true, true_or, or_true, eq_self, Option.toList_some, Option.toList_none, List.cons_append, List.nil_append, tc_0, tc_I, tc_L, tc_A, Nat.reduceAdd, Nat.reduceLeDiff, Nat.reduceEqDiff, Int.reduceEq, Int.reduceLT, Int.reduceLE, Int.reduceNeg, Int.reduceToNat, Int.cast_ofNat_Int, if_true, if_false, and_self, or_self, ite_self, bI_0, bI_1, bI_01, Bool.false_eq_true, reduceCtorEq, h, show low ≤ low from Int.le_refl _]
  | cons s r ih =>
    intro l n hO hn hs hlen
    obtain ⟨z1, hO', hc⟩ := hO
    rw [List.length_cons] at hn
    rw [List.flatMap_cons, List.length_append] at hlen
    have hsum : sSum sz (s :: r) = sz s + sSum sz r := rfl
    obtain ⟨k1, k2, k3, k4⟩ := ar_ms (S := sSum sz (s :: r)) (k := r.length) (by omega) ⟨hlow, hs⟩ hn
    have ihs := ih (l ++ o s) (n + 1) hO' (q_41 hn) (q_40 hs hsum) (by rw [List.length_append]; omega)
    rw [List.flatMap_cons, ← List.append_assoc, ← ihs, u_Sh_mirrorSteps_6]
    rcases hc with ⟨c1, c2, c3⟩ | ⟨c1, c2, c3⟩
    · have e1 : low + (sSum sz (s :: r) : Nat) - 1 = low + (sSum sz r : Nat) := by rw [hsum, c2]; omega
      simp only [u_Sh_mirrorSteps_8, u_Sh_mirrorSteps_10, u_Sh_mirrorSteps_13, u_Sh_mirrorSteps_15, u_Sh_mirrorSteps_16, u_Sh_mirrorSteps_19, u_Sh_mirrorSteps_22, u_Sh_mirrorSteps_23, u_Sh_mirrorSteps_26, u_Sh_mirrorSteps_28, u_Sh_mirrorSteps_31, u_Sh_mirrorSteps_32, u_Sh_mirrorSteps_35, u_Sh_mirrorSteps_36, u_Sh_mirrorSteps_38, u_Sh_mirrorSteps_39, u_Sh_mirrorSteps_42, u_Sh_mirrorSteps_43, u_Sh_mirrorSteps_46, u_Sh_mirrorSteps_48, u_Sh_mirrorSteps_51, u_Sh_mirrorSteps_53, u_Sh_mirrorSteps_56, u_Sh_mirrorSteps_57, u_Sh_mirrorSteps_59, u_Sh_mirrorSteps_62, u_Sh_mirrorSteps_65, h1_18, gt_18_0, xT_h1, ne_eq, not_false_eq_true, not_true_eq_false, true_and, and_true, true_or, or_true, eq_self, Option.toList_some, Option.toList_none, List.cons_append, List.nil_append, tc_0, tc_I, tc_L, tc_A, Nat.reduceAdd, Nat.reduceLeDiff, Nat.reduceEqDiff, Int.reduceEq, Int.reduceLT, Int.reduceLE, Int.reduceNeg, Int.reduceToNat, Int.cast_ofNat_Int, if_true, if_false, and_self, or_self, ite_self, bI_0, bI_1, bI_01, Bool.false_eq_true, reduceCtorEq, k1, k2, k3, hf, b0, hTb, s_Tx_role hTb (h9' l), PT_ins hTa hTb hne (show 3 ≤ 9 by decide), c1, c3 l _ (by omega), k4]
      rw [e1]
    · simp only [u_Sh_mirrorSteps_8, u_Sh_mirrorSteps_10, u_Sh_mirrorSteps_13, u_Sh_mirrorSteps_15, u_Sh_mirrorSteps_16, u_Sh_mirrorSteps_19, u_Sh_mirrorSteps_22, u_Sh_mirrorSteps_23, u_Sh_mirrorSteps_26, u_Sh_mirrorSteps_28, u_Sh_mirrorSteps_31, u_Sh_mirrorSteps_32, u_Sh_mirrorSteps_35, u_Sh_mirrorSteps_36, u_Sh_mirrorSteps_38, u_Sh_mirrorSteps_39, u_Sh_mirrorSteps_42, u_Sh_mirrorSteps_43, u_Sh_mirrorSteps_46, u_Sh_mirrorSteps_48, u_Sh_mirrorSteps_51, u_Sh_mirrorSteps_53, u_Sh_mirrorSteps_56, u_Sh_mirrorSteps_57, u_Sh_mirrorSteps_59, u_Sh_mirrorSteps_62, u_Sh_mirrorSteps_65, h1_18, gt_18_0, xT_h1, ne_eq, not_false_eq_true, not_true_eq_false, true_and, and_true, true_or, or_true, eq_self, Option.toList_some, Option.toList_none, List.cons_append, List.nil_append, tc_0, tc_I, tc_L, tc_A, Nat.reduceAdd, Nat.reduceLeDiff, Nat.reduceEqDiff, Int.reduceEq, Int.reduceLT, Int.reduceLE, Int.reduceNeg, Int.reduceToNat, Int.cast_ofNat_Int, if_true, if_false, and_self, or_self, ite_self, bI_0, bI_1, bI_01, Bool.false_eq_true, reduceCtorEq, k1, k2, k3, hf, b0, hTb, s_Tx_role hTb (h9' l), PT_ins hTa hTb hne (show 3 ≤ 9 by decide), c1, c3 l _ (by omega), s_Tx_head hTb (h9' (l ++ o s)), PT_ins hTa hTb hne (show 6 ≤ 9 by decide), c2, k4]
end
