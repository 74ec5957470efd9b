/-! Mirrors, the class: a step -/
theorem u_id {v : Int} (h : v < 128 ∨ (131 < v ∧ v < 200) ∨ 207 < v) : undo v = v := by unfold undo; rw [if_neg (by omega)]
theorem u_eT {v : Int} (h : eTk v) : undo v = v := u_id (by have := (eTk_no h).2.2.2.1; omega)
theorem map_u {l : List Int} (h : ∀ v ∈ l, undo v = v) : l.map undo = l := by
  induction l with
  | nil => rfl
  | cons v l ih => rw [List.map_cons, h v (List.mem_cons_self ..), ih (fun u hu => h u (List.mem_cons_of_mem _ hu))]
section
variable {c : Nat}
theorem kX_u (e : EE c) (h : wX e) : (kX e).map undo = kX e := map_u (fun v hv => u_eT (kX_e e h v hv))
theorem kP_u (p : PP c) (h : wP p) : (kP p).map undo = kP p := map_u (fun v hv => u_eT (kP_e p h v hv))
theorem kS_u (s : SS c) (h : wS false s) : (kS s).map undo = kS (mS s) := by
  have n1 : ∀ n : Int, kName n = true → undo n = n := fun n hn => u_id (by unfold kName at hn; simp only [decide_eq_true_eq] at hn; omega)
  have r1 : ∀ n : Int, kRow n = true → undo n = n := fun n hn => u_id (by unfold kRow at hn; simp only [decide_eq_true_eq] at hn; omega)
  have e59 : undo 59 = 59 := by decide
  have e61 : undo 61 = 61 := by decide
  match s, h with
  | .inl (k, n, e), h => simp only [kS, mS, List.map_cons, List.map_append, List.map_nil, kX_u e h.2.2, n1 n h.2.1, e59, e61]
  | .inr (.inl (p, o, e)), h => simp only [kS, mS, List.map_cons, List.map_append, List.map_nil, kX_u e h.2.2.2, kP_u p h.2.1, e59]
  | .inr (.inr (.inl (p, q))), h =>
    have e133 : undo 133 = 133 := by decide
    simp only [kS, mS, List.map_cons, List.map_append, List.map_nil, kP_u p h.2.1, kP_u q h.2.2, e59, e133]
  | .inr (.inr (.inr (.inl (k, n, s)))), h =>
    have hs : undo s = s := u_id (by have := h.2.2.2; unfold kStk at this; simp only [decide_eq_true_eq] at this; omega)
    simp only [kS, mS, List.map_cons, List.map_nil, n1 n h.2.2.1, hs, e59]
  | .inr (.inr (.inr (.inr (.inl (k, r, d, e))))), h =>
    have hd : undo d = d := u_id (by have := h.2.2.2.1; unfold kKind at this; simp only [decide_eq_true_eq] at this; omega)
    simp only [kS, mS, List.map_cons, List.map_append, List.map_nil, kX_u e h.2.2.2.2, r1 r h.2.2.1, hd, e59]
  | .inr (.inr (.inr (.inr (.inr (k, n))))), h =>
    have hn : undo n = n := u_id (by have := h.2.2; omega)
    simp only [kS, mS, List.map_cons, List.map_nil, hn, e59]
end
section
variable {L d a b : Nat} {f t g : Mem} {Q : Option TV → Wd → Prop}
theorem l_mirrorStep {x j : Int} (hTa : isT a) (hTb : isT b) (hne : ¬ b = a) (hf : (f 18 0).toNat = b) (hi : (f 18 1).toNat = a) (hl : t b 1 ≤ 1000) (hj : j ≤ 1000) : ∀ (k : List Int) (p : Int) (l : List Int), 0 ≤ p → seg (tok t b) p (j + 1) k → l.length + k.length ≤ 1000 → VV L (d + 1) m_Sh_mirrorStep 27 [some (tA 18), some (tI x), some (tI j), some (tI p)] [] (WW f (PSt (a + 1) a 1 t l) g) Q = Q none (WW f (PSt (a + 1) a 1 t (l ++ k.map undo)) g) := by
  have a0 := xT_0 hTa
  have b0 := xT_0 hTb
  intro k
  induction k with
  | nil =>
    intro p l h0 hs _
    have e := seg_len hs
    simp at e
    have h1 : j < p := by omega
    rw [u_Sh_mirrorStep_27, List.map_nil, List.append_nil]
    simp only [u_Sh_mirrorStep_28, u_Sh_mirrorStep_29, u_Sh_mirrorStep_56, ne_eq, not_false_eq_true, not_true_eq_false, true_and, and_true, true_or, or_true, eq_self, Option.toList_some, Option.toList_none, List.cons_append, List.nil_append, tc_0, tc_I, tc_L, tc_A, Nat.reduceAdd, Nat.reduceLeDiff, Nat.reduceEqDiff, Int.reduceEq, Int.reduceLT, Int.reduceLE, Int.reduceNeg, Int.reduceToNat, Int.cast_ofNat_Int, if_true, if_false, and_self, or_self, ite_self, bI_0, bI_1, bI_01, Bool.false_eq_true, reduceCtorEq, h1]
  | cons v k ih =>
    intro p l h0 hs hlen
    have e := seg_len hs
    obtain ⟨hv, hs'⟩ := seg_hd hs
    rw [List.length_cons] at hlen e
    have q1 : ¬ j < p := by omega
    have q2 : w32 (p + 1) = p + 1 := w32_id (by omega) (by omega)
    have hl' : PSt (a + 1) a 1 t l b 1 ≤ 1000 := by rw [PT_len hTa hTb hne]; exact hl
    rw [List.map_cons, show l ++ undo v :: k.map undo = (l ++ [undo v]) ++ k.map undo by simp, ← ih (p + 1) (l ++ [undo v]) (by omega) hs' (by rw [List.length_append, List.length_singleton]; omega), u_Sh_mirrorStep_27]
    simp only [u_Sh_mirrorStep_28, u_Sh_mirrorStep_29, u_Sh_mirrorStep_32, u_Sh_mirrorStep_33, u_Sh_mirrorStep_36, u_Sh_mirrorStep_37, u_Sh_mirrorStep_40, u_Sh_mirrorStep_41, u_Sh_mirrorStep_44, u_Sh_mirrorStep_47, u_Sh_mirrorStep_50, u_Sh_mirrorStep_53, h1_18, gt_18_0, gt_18_1, xT_h1, ne_eq, not_false_eq_true, not_true_eq_false, true_and, and_true, true_or, or_true, eq_self, Option.toList_some, Option.toList_none, List.cons_append, List.nil_append, tc_0, tc_I, tc_L, tc_A, Nat.reduceAdd, Nat.reduceLeDiff, Nat.reduceEqDiff, Int.reduceEq, Int.reduceLT, Int.reduceLE, Int.reduceNeg, Int.reduceToNat, Int.cast_ofNat_Int, if_true, if_false, and_self, or_self, ite_self, bI_0, bI_1, bI_01, Bool.false_eq_true, reduceCtorEq, hi, hf, a0, b0, hTa, hTb, q1, s_Tx_token hTb hl', PT_tok hTa hTb hne, hv, s_Tk_undoing, s_Tx_addP hTa (show l.length < 1000 by omega), q2]
end
