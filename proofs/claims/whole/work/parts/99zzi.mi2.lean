/-! Mirrors, the class: tokens are added -/
section
variable {L d a : Nat} {f t g : Mem} {Q : Option TV → Wd → Prop} {l : List Int} {v : Int}
theorem PT_1 : PSt (a + 1) a 1 t l a 1 = (l.length : Int) := PS_e (by omega)
theorem s_Tx_addP (hT : isT a) (hl : l.length < 1000) : VV L d m_Tx_add 0 [some (tA a), some (tI v)] [] (WW f (PSt (a + 1) a 1 t l) g) Q = Q none (WW f (PSt (a + 1) a 1 t (l ++ [v])) g) := by
  rw [s_Tx_add hT (by rw [PT_1]; exact Int.natCast_nonneg _), PT_1, if_pos (by omega), Int.toNat_natCast]
  rw [show ((l.length : Int) + 1) = ((l.length + 1 : Nat) : Int) from rfl, PS_s (by omega)]
theorem s_Tx_clearP (hT : isT a) : VV L d m_Tx_clear 0 [some (tA a)] [] (WW f t g) Q = Q none (WW f (PSt (a + 1) a 1 t []) g) := by
  rw [s_Tx_clear hT, PS_0 (a := a + 1)]
theorem s_Sh_addThree {x y z : Int} (hT : isT a) (hi : (f 18 1).toNat = a) (hl : l.length + 3 ≤ 1000) : VV L (d + 1) m_Sh_addThree 0 [some (tA 18), some (tI x), some (tI y), some (tI z)] [] (WW f (PSt (a + 1) a 1 t l) g) Q = Q none (WW f (PSt (a + 1) a 1 t (l ++ [x, y, z])) g) := by
  have a0 := xT_0 hT
  have e : l ++ [x, y, z] = l ++ [x] ++ [y] ++ [z] := by simp
  rw [e]
  simp only [u_Sh_addThree_0, u_Sh_addThree_1, u_Sh_addThree_4, u_Sh_addThree_5, u_Sh_addThree_8, u_Sh_addThree_9, u_Sh_addThree_12, u_Sh_addThree_13, u_Sh_addThree_16, u_Sh_addThree_17, u_Sh_addThree_20, u_Sh_addThree_21, u_Sh_addThree_24, h1_18, gt_18_1, xT_h1, ne_eq, not_false_eq_true, not_true_eq_false, true_and, and_true, true_or, or_true, eq_self, Option.toList_some, Option.toList_none, List.cons_append, List.nil_append, tc_0, tc_I, tc_L, tc_A, Nat.reduceAdd, Nat.reduceLeDiff, Nat.reduceEqDiff, Int.reduceEq, Int.reduceLT, Int.reduceLE, Int.reduceNeg, Int.reduceToNat, Int.cast_ofNat_Int, if_true, if_false, and_self, or_self, ite_self, bI_0, bI_1, bI_01, Bool.false_eq_true, reduceCtorEq, hi, a0, hT, s_Tx_addP hT (show l.length < 1000 by omega), s_Tx_addP hT (show (l ++ [x]).length < 1000 by rw [List.length_append, List.length_singleton]; omega), s_Tx_addP hT (show (l ++ [x] ++ [y]).length < 1000 by rw [List.length_append, List.length_append, List.length_singleton, List.length_singleton]; omega)]
theorem PT_tok {b : Nat} (ha : isT a) (hb : isT b) (h : ¬ b = a) : tok (PSt (a + 1) a 1 t l) b = tok t b := by
  have := isT_far hb ha h
  exact tok_of (PS_o (by omega) (by omega)) (fun j => PS_o (by omega) (by omega))
theorem PT_len {b : Nat} (ha : isT a) (hb : isT b) (h : ¬ b = a) : PSt (a + 1) a 1 t l b 1 = t b 1 := by
  have := isT_far hb ha h
  exact PS_o (by omega) (by omega)
theorem q_30 {p j : Int} (h : p < j) (hj : j ≤ 1000) (h0 : 0 ≤ p) : ¬ j ≤ p ∧ w32 (p + 1) = p + 1 := by
  refine ⟨by omega, w32_id (by omega) (by omega)⟩
theorem l_addTokens {b : Nat} {i ek j : Int} (hTa : isT a) (hTb : isT b) (hne : ¬ b = a) (hf : (f 18 0).toNat = b) (hi : (f 18 1).toNat = a) (hl : t b 1 ≤ 1000) (hj : j ≤ 1000) : ∀ (k : List Int) (p : Int) (l : List Int), 0 ≤ p → seg (tok t b) p j k → l.length + k.length ≤ 1000 → VV L (d + 1) m_Sh_addTokens 13 [some (tA 18), some (tI i), some (tI ek), some (tI j), some (tI p)] [] (WW f (PSt (a + 1) a 1 t l) g) Q = Q none (WW f (PSt (a + 1) a 1 t (l ++ k)) g) := by
  have a0 := xT_0 hTa
  have b0 := xT_0 hTb
  intro k
  induction k with
  | nil =>
    intro p l h0 hs _
    have e := seg_len hs
    simp at e
    subst e
    rw [u_Sh_addTokens_13, List.append_nil]
    simp only [u_Sh_addTokens_15, u_Sh_addTokens_16, u_Sh_addTokens_41, ne_eq, not_false_eq_true, not_true_eq_false, true_and, and_true, true_or, or_true, eq_self, Option.toList_some, Option.toList_none, List.cons_append, List.nil_append, tc_0, tc_I, tc_L, tc_A, Nat.reduceAdd, Nat.reduceLeDiff, Nat.reduceEqDiff, Int.reduceEq, Int.reduceLT, Int.reduceLE, Int.reduceNeg, Int.reduceToNat, Int.cast_ofNat_Int, if_true, if_false, and_self, or_self, ite_self, bI_0, bI_1, bI_01, Bool.false_eq_true, reduceCtorEq, show j ≤ j from Int.le_refl _]
  | cons v k ih =>
    intro p l h0 hs hlen
    have e := seg_len hs
    obtain ⟨hv, hs'⟩ := seg_hd hs
    rw [List.length_cons] at hlen e
    obtain ⟨q1, q2⟩ := q_30 (show p < j by omega) hj h0
    have hl' : PSt (a + 1) a 1 t l b 1 ≤ 1000 := by rw [PT_len hTa hTb hne]; exact hl
    rw [show l ++ v :: k = (l ++ [v]) ++ k by simp, ← ih (p + 1) (l ++ [v]) (by omega) hs' (by rw [List.length_append, List.length_singleton]; omega), u_Sh_addTokens_13]
    simp only [u_Sh_addTokens_15, u_Sh_addTokens_16, u_Sh_addTokens_19, u_Sh_addTokens_20, u_Sh_addTokens_23, u_Sh_addTokens_24, u_Sh_addTokens_27, u_Sh_addTokens_29, u_Sh_addTokens_32, u_Sh_addTokens_35, u_Sh_addTokens_38, h1_18, gt_18_0, gt_18_1, xT_h1, ne_eq, not_false_eq_true, not_true_eq_false, true_and, and_true, true_or, or_true, eq_self, Option.toList_some, Option.toList_none, List.cons_append, List.nil_append, tc_0, tc_I, tc_L, tc_A, Nat.reduceAdd, Nat.reduceLeDiff, Nat.reduceEqDiff, Int.reduceEq, Int.reduceLT, Int.reduceLE, Int.reduceNeg, Int.reduceToNat, Int.cast_ofNat_Int, if_true, if_false, and_self, or_self, ite_self, bI_0, bI_1, bI_01, Bool.false_eq_true, reduceCtorEq, hi, hf, a0, b0, hTa, hTb, q1, s_Tx_token hTb hl', PT_tok hTa hTb hne, hv, s_Tx_addP hTa (show l.length < 1000 by omega), q2]
theorem s_Sh_addTokens {b : Nat} {i ek j : Int} {k : List Int} (hTa : isT a) (hTb : isT b) (hne : ¬ b = a) (hf : (f 18 0).toNat = b) (hi : (f 18 1).toNat = a) (hl : t b 1 ≤ 1000) (hj : j ≤ 1000) (h0 : 0 ≤ i) (hs : seg (tok t b) i j k) (hn : nxt (tok t b) (t b 1) ek i = j) (hlen : l.length + k.length ≤ 1000) : VV L (d + 2) m_Sh_addTokens 0 [some (tA 18), some (tI i), some (tI ek), none, none] [] (WW f (PSt (a + 1) a 1 t l) g) Q = Q none (WW f (PSt (a + 1) a 1 t (l ++ k)) g) := by
  have a0 := xT_0 hTa
  have b0 := xT_0 hTb
  have hl' : PSt (a + 1) a 1 t l b 1 ≤ 1000 := by rw [PT_len hTa hTb hne]; exact hl
  rw [← l_addTokens (L := L) (d := d + 1) (g := g) (Q := Q) (i := i) (ek := ek) hTa hTb hne hf hi hl hj k i l h0 hs hlen]
  simp only [u_Sh_addTokens_0, u_Sh_addTokens_1, u_Sh_addTokens_4, u_Sh_addTokens_5, u_Sh_addTokens_6, u_Sh_addTokens_9, u_Sh_addTokens_10, u_Sh_addTokens_11, h1_18, gt_18_0, xT_h1, ne_eq, not_false_eq_true, not_true_eq_false, true_and, and_true, true_or, or_true, eq_self, Option.toList_some, Option.toList_none, List.cons_append, List.nil_append, tc_0, tc_I, tc_L, tc_A, Nat.reduceAdd, Nat.reduceLeDiff, Nat.reduceEqDiff, Int.reduceEq, Int.reduceLT, Int.reduceLE, Int.reduceNeg, Int.reduceToNat, Int.cast_ofNat_Int, if_true, if_false, and_self, or_self, ite_self, bI_0, bI_1, bI_01, Bool.false_eq_true, reduceCtorEq, hf, b0, hTb, s_Tx_next hTb hl' h0, PT_tok hTa hTb hne, PT_len hTa hTb hne, hn]
end
