/-! turn, the class: what is written -/
section
variable {L d a b : Nat} {f t g : Mem} {Q : Option TV → Wd → Prop} {p st n j : Int} {k l : List Int}
theorem s_Sh_addPush (hT : isT a) (hi : (f 18 1).toNat = a) (hl : l.length + 4 ≤ 1000) : VV L (d + 2) m_Sh_addPush 0 [some (tA 18), some (tI n)] [] (WW f (PSt (a + 1) a 1 t l) g) Q = Q none (WW f (PSt (a + 1) a 1 t (l ++ [202, n, 86, 59])) g) := by
  have a0 := xT_0 hT
  have e : l ++ [202, n, 86, 59] = l ++ [202, n, 86] ++ [59] := by simp
  rw [e]
  simp only [u_Sh_addPush_0, u_Sh_addPush_1, u_Sh_addPush_4, u_Sh_addPush_5, u_Sh_addPush_7, u_Sh_addPush_10, u_Sh_addPush_11, u_Sh_addPush_14, u_Sh_addPush_16, u_Sh_addPush_19, h1_18, gt_18_1, xT_h1, ne_eq, not_false_eq_true, not_true_eq_false, true_and, and_true, true_or, or_true, eq_self, Option.toList_some, Option.toList_none, List.cons_append, List.nil_append, tc_0, tc_I, tc_L, tc_A, Nat.reduceAdd, Nat.reduceLeDiff, Nat.reduceEqDiff, Int.reduceEq, Int.reduceLT, Int.reduceLE, Int.reduceNeg, Int.reduceToNat, Int.cast_ofNat_Int, if_true, if_false, and_self, or_self, ite_self, bI_0, bI_1, bI_01, Bool.false_eq_true, reduceCtorEq, hi, a0, hT, s_Sh_addThree hT hi (show l.length + 3 ≤ 1000 by omega), s_Tx_addP hT (show (l ++ [202, n, 86]).length < 1000 by simp; omega)]
theorem s_Sh_addNaught {v : Int} (hT : isT a) (hi : (f 18 1).toNat = a) (hl : l.length + 5 ≤ 1000) : VV L (d + 2) m_Sh_addNaught 0 [some (tA 18), some (tI v), some (tI n)] [] (WW f (PSt (a + 1) a 1 t l) g) Q = Q none (WW f (PSt (a + 1) a 1 t (l ++ [v, n, 61, -1, 59])) g) := by
  have a0 := xT_0 hT
  have e : l ++ [v, n, 61, -1, 59] = l ++ [v, n, 61] ++ [-1] ++ [59] := by simp
  rw [e]
  simp only [u_Sh_addNaught_0, u_Sh_addNaught_1, u_Sh_addNaught_2, u_Sh_addNaught_3, u_Sh_addNaught_5, u_Sh_addNaught_8, u_Sh_addNaught_9, u_Sh_addNaught_12, u_Sh_addNaught_13, u_Sh_addNaught_16, u_Sh_addNaught_17, u_Sh_addNaught_20, u_Sh_addNaught_22, u_Sh_addNaught_25, h1_18, gt_18_1, xT_h1, ne_eq, not_false_eq_true, not_true_eq_false, true_and, and_true, true_or, or_true, eq_self, Option.toList_some, Option.toList_none, List.cons_append, List.nil_append, tc_0, tc_I, tc_L, tc_A, Nat.reduceAdd, Nat.reduceLeDiff, Nat.reduceEqDiff, Int.reduceEq, Int.reduceLT, Int.reduceLE, Int.reduceNeg, Int.reduceToNat, Int.cast_ofNat_Int, if_true, if_false, and_self, or_self, ite_self, bI_0, bI_1, bI_01, Bool.false_eq_true, reduceCtorEq, hi, a0, hT, s_Sh_addThree hT hi (show l.length + 3 ≤ 1000 by omega), s_Tx_addP hT (show (l ++ [v, n, 61]).length < 1000 by simp; omega), s_Tx_addP hT (show (l ++ [v, n, 61] ++ [-1]).length < 1000 by simp; omega)]
theorem s_Sh_addTrail (hT : isT a) (hi : (f 18 1).toNat = a) (hl : l.length + 9 ≤ 1000) : VV L (d + 3) m_Sh_addTrail 0 [some (tA 18), some (tI n)] [] (WW f (PSt (a + 1) a 1 t l) g) Q = Q none (WW f (PSt (a + 1) a 1 t (l ++ [202, n, 86, 59, 201, n, 61, -1, 59])) g) := by
  have a0 := xT_0 hT
  have e : l ++ [202, n, 86, 59, 201, n, 61, -1, 59] = l ++ [202, n, 86, 59] ++ [201, n, 61, -1, 59] := by simp
  rw [e]
  simp only [u_Sh_addTrail_0, u_Sh_addTrail_1, u_Sh_addTrail_2, u_Sh_addTrail_5, u_Sh_addTrail_6, u_Sh_addTrail_9, u_Sh_addTrail_10, u_Sh_addTrail_13, h1_18, ne_eq, not_false_eq_true, not_true_eq_false, true_and, and_true, true_or, or_true, eq_self, Option.toList_some, Option.toList_none, List.cons_append, List.nil_append, tc_0, tc_I, tc_L, tc_A, Nat.reduceAdd, Nat.reduceLeDiff, Nat.reduceEqDiff, Int.reduceEq, Int.reduceLT, Int.reduceLE, Int.reduceNeg, Int.reduceToNat, Int.cast_ofNat_Int, if_true, if_false, and_self, or_self, ite_self, bI_0, bI_1, bI_01, Bool.false_eq_true, reduceCtorEq, s_Sh_addPush hT hi (show l.length + 4 ≤ 1000 by omega), s_Sh_addNaught hT hi (show (l ++ [202, n, 86, 59]).length + 5 ≤ 1000 by simp; omega)]
theorem s_Sh_addIsNaught (hT : isT a) (hi : (f 18 1).toNat = a) (hl : l.length + 5 ≤ 1000) : VV L (d + 2) m_Sh_addIsNaught 0 [some (tA 18), some (tI n)] [] (WW f (PSt (a + 1) a 1 t l) g) Q = Q none (WW f (PSt (a + 1) a 1 t (l ++ [40, n, 61, -1, 41])) g) := by
  have a0 := xT_0 hT
  have e : l ++ [40, n, 61, -1, 41] = l ++ [40, n, 61] ++ [-1] ++ [41] := by simp
  rw [e]
  simp only [u_Sh_addIsNaught_0, u_Sh_addIsNaught_1, u_Sh_addIsNaught_3, u_Sh_addIsNaught_4, u_Sh_addIsNaught_6, u_Sh_addIsNaught_9, u_Sh_addIsNaught_10, u_Sh_addIsNaught_13, u_Sh_addIsNaught_14, u_Sh_addIsNaught_17, u_Sh_addIsNaught_18, u_Sh_addIsNaught_21, u_Sh_addIsNaught_23, u_Sh_addIsNaught_26, h1_18, gt_18_1, xT_h1, ne_eq, not_false_eq_true, not_true_eq_false, true_and, and_true, true_or, or_true, eq_self, Option.toList_some, Option.toList_none, List.cons_append, List.nil_append, tc_0, tc_I, tc_L, tc_A, Nat.reduceAdd, Nat.reduceLeDiff, Nat.reduceEqDiff, Int.reduceEq, Int.reduceLT, Int.reduceLE, Int.reduceNeg, Int.reduceToNat, Int.cast_ofNat_Int, if_true, if_false, and_self, or_self, ite_self, bI_0, bI_1, bI_01, Bool.false_eq_true, reduceCtorEq, hi, a0, hT, s_Sh_addThree hT hi (show l.length + 3 ≤ 1000 by omega), s_Tx_addP hT (show (l ++ [40, n, 61]).length < 1000 by simp; omega), s_Tx_addP hT (show (l ++ [40, n, 61] ++ [-1]).length < 1000 by simp; omega)]
theorem s_Sh_addEqN {i : Int} (hTa : isT a) (hTb : isT b) (hne : ¬ b = a) (hf : (f 18 0).toNat = b) (hi : (f 18 1).toNat = a) (hl : t b 1 ≤ 1000) (h0 : 0 ≤ i) (hs : seg (tok t b) i j k) (hk : ∀ v ∈ k, eTk v) (hj : tok t b j = 123) (hlen : l.length + k.length + 4 ≤ 1000) : VV L (d + 3) m_Sh_addEqualsNaught 0 [some (tA 18), some (tI i)] [] (WW f (PSt (a + 1) a 1 t l) g) Q = Q none (WW f (PSt (a + 1) a 1 t (l ++ 40 :: (k ++ [61, -1, 41]))) g) := by
  have a0 := xT_0 hTa
  have jl : j < t b 1 := (tok_ne (by rw [hj]; decide)).2
  have n1 : nxt (tok t b) (t b 1) 123 i = j := nxt_seg hs (fun v hv => (eTk_no (hk v hv)).2.1) hj jl
  have e : l ++ 40 :: (k ++ [61, -1, 41]) = l ++ [40] ++ k ++ [61, -1, 41] := by simp
  rw [e]
  simp only [u_Sh_addEqualsNaught_0, u_Sh_addEqualsNaught_1, u_Sh_addEqualsNaught_4, u_Sh_addEqualsNaught_6, u_Sh_addEqualsNaught_9, u_Sh_addEqualsNaught_10, u_Sh_addEqualsNaught_11, u_Sh_addEqualsNaught_13, u_Sh_addEqualsNaught_16, u_Sh_addEqualsNaught_17, u_Sh_addEqualsNaught_19, u_Sh_addEqualsNaught_20, u_Sh_addEqualsNaught_22, u_Sh_addEqualsNaught_25, h1_18, gt_18_1, xT_h1, ne_eq, not_false_eq_true, not_true_eq_false, true_and, and_true, true_or, or_true, eq_self, Option.toList_some, Option.toList_none, List.cons_append, List.nil_append, tc_0, tc_I, tc_L, tc_A, Nat.reduceAdd, Nat.reduceLeDiff, Nat.reduceEqDiff, Int.reduceEq, Int.reduceLT, Int.reduceLE, Int.reduceNeg, Int.reduceToNat, Int.cast_ofNat_Int, if_true, if_false, and_self, or_self, ite_self, bI_0, bI_1, bI_01, Bool.false_eq_true, reduceCtorEq, hi, a0, hTa, s_Tx_addP hTa (show l.length < 1000 by omega), s_Sh_addTokens hTa hTb hne hf hi hl (show j ≤ 1000 by omega) h0 hs n1 (show (l ++ [40]).length + k.length ≤ 1000 by simp; omega), s_Sh_addThree hTa hi (show (l ++ [40] ++ k).length + 3 ≤ 1000 by simp; omega)]
theorem s_Sh_changeBy {w : Wd} {v : Int} : VV L d m_Sh_changeBy 0 [some (tI v)] [] w Q = Q (some (tI (chB v))) w := by
  by_cases c1 : v = 43
  · subst c1
    have e : chB 43 = 128 := by decide
    simp only [u_Sh_changeBy_0, u_Sh_changeBy_1, u_Sh_changeBy_3, u_Sh_changeBy_6, u_Sh_changeBy_9, u_Sh_changeBy_10, u_Sh_changeBy_11, u_Sh_changeBy_13, u_Sh_changeBy_16, u_Sh_changeBy_19, u_Sh_changeBy_22, u_Sh_changeBy_25, ne_eq, not_false_eq_true, not_true_eq_false, true_and, and_true, true_or, or_true, eq_self, Option.toList_some, Option.toList_none, List.cons_append, List.nil_append, tc_0, tc_I, tc_L, tc_A, Nat.reduceAdd, Nat.reduceLeDiff, Nat.reduceEqDiff, Int.reduceEq, Int.reduceLT, Int.reduceLE, Int.reduceNeg, Int.reduceToNat, Int.cast_ofNat_Int, if_true, if_false, and_self, or_self, ite_self, bI_0, bI_1, bI_01, Bool.false_eq_true, reduceCtorEq, e]
  · by_cases c2 : v = 45
    · subst c2
      have e : chB 45 = 129 := by decide
      simp only [u_Sh_changeBy_0, u_Sh_changeBy_1, u_Sh_changeBy_3, u_Sh_changeBy_6, u_Sh_changeBy_9, u_Sh_changeBy_10, u_Sh_changeBy_11, u_Sh_changeBy_13, u_Sh_changeBy_16, u_Sh_changeBy_19, u_Sh_changeBy_22, u_Sh_changeBy_25, ne_eq, not_false_eq_true, not_true_eq_false, true_and, and_true, true_or, or_true, eq_self, Option.toList_some, Option.toList_none, List.cons_append, List.nil_append, tc_0, tc_I, tc_L, tc_A, Nat.reduceAdd, Nat.reduceLeDiff, Nat.reduceEqDiff, Int.reduceEq, Int.reduceLT, Int.reduceLE, Int.reduceNeg, Int.reduceToNat, Int.cast_ofNat_Int, if_true, if_false, and_self, or_self, ite_self, bI_0, bI_1, bI_01, Bool.false_eq_true, reduceCtorEq, Int.reduceEq, e]
    · have e : chB v = 132 := by unfold chB; rw [if_neg c1, if_neg c2]
      simp only [u_Sh_changeBy_0, u_Sh_changeBy_1, u_Sh_changeBy_3, u_Sh_changeBy_6, u_Sh_changeBy_9, u_Sh_changeBy_10, u_Sh_changeBy_11, u_Sh_changeBy_13, u_Sh_changeBy_16, u_Sh_changeBy_19, u_Sh_changeBy_22, u_Sh_changeBy_25, ne_eq, not_false_eq_true, not_true_eq_false, true_and, and_true, true_or, or_true, eq_self, Option.toList_some, Option.toList_none, List.cons_append, List.nil_append, tc_0, tc_I, tc_L, tc_A, Nat.reduceAdd, Nat.reduceLeDiff, Nat.reduceEqDiff, Int.reduceEq, Int.reduceLT, Int.reduceLE, Int.reduceNeg, Int.reduceToNat, Int.cast_ofNat_Int, if_true, if_false, and_self, or_self, ite_self, bI_0, bI_1, bI_01, Bool.false_eq_true, reduceCtorEq, c1, c2, e]
theorem SA.ps (h : SA b f t p st n j k) (hTa : isT a) (hne : ¬ b = a) : SA b f (PSt (a + 1) a 1 t l) p st n j k := by
  have hT := h.hT
  have e1 : PSt (a + 1) a 1 t l b 1 = t b 1 := PT_len hTa hT hne
  have et : tok (PSt (a + 1) a 1 t l) b = tok t b := PT_tok hTa hT hne
  refine ⟨hT, h.hf, ?_, ?_, ?_, ?_, h.h0, ?_, ?_, ?_, h.hk, h.kn, h.k1⟩
  · rw [e1]; exact h.hl
  · rw [show PSt (a + 1) a 1 t l b 9 = t b 9 from PT_far (n := 0) hTa hT hne (by omega)]; exact h.h9
  · rw [PT_ins hTa hT hne (by decide), e1]; exact h.h4
  · rw [PT_ins hTa hT hne (by decide), e1]; exact h.h5
  · rw [et]; exact h.hn
  · rw [et]; exact h.hs
  · rw [et]; exact h.hj
theorem s_Sh_turnSet (h : SA b f t p st n j k) (hTa : isT a) (hne : ¬ b = a) (hi : (f 18 1).toNat = a) (hlen : l.length + (kTu n k).length ≤ 1000) : VV L (d + 5) m_Sh_turnSet 0 [some (tA 18), some (tI p), none, none] [] (WW f (PSt (a + 1) a 1 t l) g) Q = Q none (WW f (PSt (a + 1) a 1 t (l ++ kTu n k)) g) := by
  have a0 := xT_0 hTa
  have b0 := xT_0 h.hT
  have hT := h.hT
  have hf := h.hf
  have hl := h.hl
  have h0 := h.h0
  have hjl := h.jl
  have hs := h.hs
  have hjk := h.hj
  have hk := h.hk
  have S := fun l => SA.ps (l := l) h hTa hne
  have add : ∀ D (l : List Int) v Q, l.length < 1000 → VV L D m_Tx_add 0 [some (tA a), some (tI v)] [] (WW f (PSt (a + 1) a 1 t l) g) Q = Q none (WW f (PSt (a + 1) a 1 t (l ++ [v])) g) := fun D l v Q h => s_Tx_addP hTa h
  have N1 := fun Q => s_Sh_nameOf (L := L) (d := d + 2) (g := g) (Q := Q) (S l)
  have O1 := fun Q => s_Sh_isOwnChange (L := L) (d := d) (g := g) (Q := Q) (S l)
  have I1 := fun Q => s_Sh_isInOwn (L := L) (d := d + 1) (g := g) (Q := Q) (q := 0) (S l) (Nat.zero_le _)
  have z0 : ((0 : Nat) : Int) = 0 := rfl
  rw [z0, List.drop_zero] at I1
  have nx : ∀ (i : Int) (m : List Int), seg (tok t b) i j m → (∀ v ∈ m, eTk v) → nxt (tok t b) (t b 1) 59 i = j := fun i m hm hv => nxt_seg hm (fun v hv2 => (eTk_no (hv v hv2)).1) hjk hjl.1
  by_cases hp : plQ n k = true
  · match k, h, hjl, hs, hk, hp, hlen, S, N1, O1, I1 with
    | [], h, _, _, _, hp, _, _, _, _, _ => exact absurd (show false = true from hp) (by decide)
    | [a'], h, _, _, _, hp, _, _, _, _, _ => exact absurd (show false = true from hp) (by decide)
    | a' :: s :: m, h, hjl, hs, hk, hp, hlen, S, N1, O1, I1 =>
      have ek : kTu n (a' :: s :: m) = n :: chB s :: (m ++ [59]) := by unfold kTu; rw [if_pos hp]; rfl
      rw [ek] at hlen ⊢
      simp only [List.length_cons, List.length_append, List.length_nil] at hlen
      obtain ⟨_, q1⟩ := seg_hd hs
      obtain ⟨q2, q3⟩ := seg_hd q1
      rw [hp] at O1
      have w1 : w32 (st + 3 + 1) = st + 3 + 1 := w32_id (by omega) (by omega)
      have w2 : w32 (st + 3 + 2) = st + 3 + 2 := w32_id (by omega) (by omega)
      rw [show st + 3 + 1 + 1 = st + 3 + 2 by omega] at q3
      obtain ⟨l1, e1⟩ : ∃ l1, l1 = l ++ [n] := ⟨_, rfl⟩
      obtain ⟨l2, e2⟩ : ∃ l2, l2 = l1 ++ [chB s] := ⟨_, rfl⟩
      obtain ⟨l3, e3⟩ : ∃ l3, l3 = l2 ++ m := ⟨_, rfl⟩
      have n1' : l1.length = l.length + 1 := by rw [e1]; simp
      have n2' : l2.length = l1.length + 1 := by rw [e2]; simp
      have n3' : l3.length = l2.length + m.length := by rw [e3]; simp
      have hfin : l ++ n :: chB s :: (m ++ [59]) = l3 ++ [59] := by rw [e3, e2, e1]; simp
      rw [hfin]
      have D1 := fun D Q => add D l n Q (by omega)
      have D2 := fun D Q => add D l1 (chB s) Q (by omega)
      have D3 := fun D Q => add D l3 59 Q (by omega)
      have A1 := fun D Q => s_Sh_addTokens (L := L) (d := D) (g := g) (Q := Q) (l := l2) (ek := 59) hTa hT hne hf hi hl (by omega) (by omega) q3 (nx _ m q3 (fun v hv => hk v (List.mem_cons_of_mem _ (List.mem_cons_of_mem _ hv)))) (by omega)
      rw [← e1] at D1
      rw [← e2] at D2
      rw [← e3] at A1
      have tk := fun D Q => s_Tx_token (L := L) (d := D) (f := f) (g := g) (Q := Q) (i := st + 3 + 1) hT (S l1).hl
      rw [PT_tok hTa hT hne, q2] at tk
      simp only [u_Sh_turnSet_0, u_Sh_turnSet_1, u_Sh_turnSet_2, u_Sh_turnSet_5, u_Sh_turnSet_6, u_Sh_turnSet_7, u_Sh_turnSet_10, u_Sh_turnSet_11, u_Sh_turnSet_14, u_Sh_turnSet_15, u_Sh_turnSet_16, u_Sh_turnSet_17, u_Sh_turnSet_20, u_Sh_turnSet_23, u_Sh_turnSet_24, u_Sh_turnSet_27, u_Sh_turnSet_28, u_Sh_turnSet_31, u_Sh_turnSet_32, u_Sh_turnSet_35, u_Sh_turnSet_36, u_Sh_turnSet_39, u_Sh_turnSet_40, u_Sh_turnSet_41, u_Sh_turnSet_42, u_Sh_turnSet_45, u_Sh_turnSet_48, u_Sh_turnSet_51, u_Sh_turnSet_52, u_Sh_turnSet_53, u_Sh_turnSet_54, u_Sh_turnSet_55, u_Sh_turnSet_57, u_Sh_turnSet_60, u_Sh_turnSet_61, u_Sh_turnSet_64, u_Sh_turnSet_66, u_Sh_turnSet_69, u_Sh_turnSet_175, h1_18, gt_18_0, gt_18_1, xT_h1, ne_eq, not_false_eq_true, not_true_eq_false, true_and, and_true, true_or, or_true, eq_self, Option.toList_some, Option.toList_none, List.cons_append, List.nil_append, tc_0, tc_I, tc_L, tc_A, Nat.reduceAdd, Nat.reduceLeDiff, Nat.reduceEqDiff, Int.reduceEq, Int.reduceLT, Int.reduceLE, Int.reduceNeg, Int.reduceToNat, Int.cast_ofNat_Int, if_true, if_false, and_self, or_self, ite_self, bI_0, bI_1, bI_01, Bool.false_eq_true, reduceCtorEq, hf, hi, a0, b0, hT, hTa, N1, s_Tx_body hT (S l).h9, (S l).h5, O1, bB_t, D1, w1, tk, s_Sh_changeBy, D2, w2, A1, D3]
  · have hp' : plQ n k = false := by simpa using hp
    rw [hp'] at O1
    by_cases hin : n ∈ k
    · have ek : kTu n k = [200, 122, 61] ++ (k ++ [59, n, 133, 122, 59, 202, 122, 86, 59, 201, 122, 61, -1, 59]) := by unfold kTu; rw [if_neg hp, if_pos hin]
      rw [ek] at hlen ⊢
      simp only [List.length_cons, List.length_append, List.length_nil] at hlen
      obtain ⟨l1, e1⟩ : ∃ l1, l1 = l ++ [200, 122, 61] := ⟨_, rfl⟩
      obtain ⟨l2, e2⟩ : ∃ l2, l2 = l1 ++ k := ⟨_, rfl⟩
      obtain ⟨l3, e3⟩ : ∃ l3, l3 = l2 ++ [59] := ⟨_, rfl⟩
      obtain ⟨l4, e4⟩ : ∃ l4, l4 = l3 ++ [n, 133, 122] := ⟨_, rfl⟩
      obtain ⟨l5, e5⟩ : ∃ l5, l5 = l4 ++ [59] := ⟨_, rfl⟩
      have n1' : l1.length = l.length + 3 := by rw [e1]; simp
      have n2' : l2.length = l1.length + k.length := by rw [e2]; simp
      have n3' : l3.length = l2.length + 1 := by rw [e3]; simp
      have n4' : l4.length = l3.length + 3 := by rw [e4]; simp
      have n5' : l5.length = l4.length + 1 := by rw [e5]; simp
      have hfin : l ++ ([200, 122, 61] ++ (k ++ [59, n, 133, 122, 59, 202, 122, 86, 59, 201, 122, 61, -1, 59])) = l5 ++ [202, 122, 86, 59, 201, 122, 61, -1, 59] := by rw [e5, e4, e3, e2, e1]; simp
      rw [hfin]
      have T1 := fun D Q => s_Sh_addThree (L := L) (d := D) (f := f) (t := t) (g := g) (Q := Q) (l := l) (x := 200) (y := 122) (z := 61) hTa hi (by omega)
      have A1 := fun D Q => s_Sh_addTokens (L := L) (d := D) (g := g) (Q := Q) (l := l1) (ek := 59) hTa hT hne hf hi hl (by omega) (by omega) hs (nx _ k hs hk) (by omega)
      have D3 := fun D Q => add D l2 59 Q (by omega)
      have T4 := fun D Q => s_Sh_addThree (L := L) (d := D) (f := f) (t := t) (g := g) (Q := Q) (l := l3) (x := n) (y := 133) (z := 122) hTa hi (by omega)
      have D5 := fun D Q => add D l4 59 Q (by omega)
      have R6 := fun D Q => s_Sh_addTrail (L := L) (d := D) (f := f) (t := t) (g := g) (Q := Q) (l := l5) (n := 122) hTa hi (by omega)
      rw [← e1] at T1
      rw [← e2] at A1
      rw [← e3] at D3
      rw [← e4] at T4
      rw [← e5] at D5
      simp only [u_Sh_turnSet_0, u_Sh_turnSet_1, u_Sh_turnSet_2, u_Sh_turnSet_5, u_Sh_turnSet_6, u_Sh_turnSet_7, u_Sh_turnSet_10, u_Sh_turnSet_11, u_Sh_turnSet_14, u_Sh_turnSet_15, u_Sh_turnSet_16, u_Sh_turnSet_17, u_Sh_turnSet_20, u_Sh_turnSet_72, u_Sh_turnSet_73, u_Sh_turnSet_74, u_Sh_turnSet_75, u_Sh_turnSet_78, u_Sh_turnSet_123, u_Sh_turnSet_124, u_Sh_turnSet_127, u_Sh_turnSet_129, u_Sh_turnSet_131, u_Sh_turnSet_134, u_Sh_turnSet_135, u_Sh_turnSet_136, u_Sh_turnSet_138, u_Sh_turnSet_141, u_Sh_turnSet_142, u_Sh_turnSet_145, u_Sh_turnSet_147, u_Sh_turnSet_150, u_Sh_turnSet_151, u_Sh_turnSet_152, u_Sh_turnSet_155, u_Sh_turnSet_157, u_Sh_turnSet_160, u_Sh_turnSet_161, u_Sh_turnSet_164, u_Sh_turnSet_166, u_Sh_turnSet_169, u_Sh_turnSet_170, u_Sh_turnSet_172, u_Sh_turnSet_175, h1_18, gt_18_0, gt_18_1, xT_h1, ne_eq, not_false_eq_true, not_true_eq_false, true_and, and_true, true_or, or_true, eq_self, Option.toList_some, Option.toList_none, List.cons_append, List.nil_append, tc_0, tc_I, tc_L, tc_A, Nat.reduceAdd, Nat.reduceLeDiff, Nat.reduceEqDiff, Int.reduceEq, Int.reduceLT, Int.reduceLE, Int.reduceNeg, Int.reduceToNat, Int.cast_ofNat_Int, if_true, if_false, and_self, or_self, ite_self, bI_0, bI_1, bI_01, Bool.false_eq_true, reduceCtorEq, hf, hi, a0, b0, hT, hTa, N1, s_Tx_body hT (S l).h9, (S l).h5, O1, bB_f, I1, hin, decide_true, bB_t, T1, A1, D3, T4, D5, R6]
    · have ek : kTu n k = [202, n, 86, 59, n, 128] ++ (k ++ [59]) := by unfold kTu; rw [if_neg hp, if_neg hin]
      rw [ek] at hlen ⊢
      simp only [List.length_cons, List.length_append, List.length_nil] at hlen
      obtain ⟨l1, e1⟩ : ∃ l1, l1 = l ++ [202, n, 86, 59] := ⟨_, rfl⟩
      obtain ⟨l2, e2⟩ : ∃ l2, l2 = l1 ++ [n] := ⟨_, rfl⟩
      obtain ⟨l3, e3⟩ : ∃ l3, l3 = l2 ++ [128] := ⟨_, rfl⟩
      obtain ⟨l4, e4⟩ : ∃ l4, l4 = l3 ++ k := ⟨_, rfl⟩
      have n1' : l1.length = l.length + 4 := by rw [e1]; simp
      have n2' : l2.length = l1.length + 1 := by rw [e2]; simp
      have n3' : l3.length = l2.length + 1 := by rw [e3]; simp
      have n4' : l4.length = l3.length + k.length := by rw [e4]; simp
      have hfin : l ++ ([202, n, 86, 59, n, 128] ++ (k ++ [59])) = l4 ++ [59] := by rw [e4, e3, e2, e1]; simp
      rw [hfin]
      have P1 := fun D Q => s_Sh_addPush (L := L) (d := D) (f := f) (t := t) (g := g) (Q := Q) (l := l) (n := n) hTa hi (by omega)
      have D2 := fun D Q => add D l1 n Q (by omega)
      have D3 := fun D Q => add D l2 128 Q (by omega)
      have A1 := fun D Q => s_Sh_addTokens (L := L) (d := D) (g := g) (Q := Q) (l := l3) (ek := 59) hTa hT hne hf hi hl (by omega) (by omega) hs (nx _ k hs hk) (by omega)
      have D5 := fun D Q => add D l4 59 Q (by omega)
      rw [← e1] at P1
      rw [← e2] at D2
      rw [← e3] at D3
      rw [← e4] at A1
      simp only [u_Sh_turnSet_0, u_Sh_turnSet_1, u_Sh_turnSet_2, u_Sh_turnSet_5, u_Sh_turnSet_6, u_Sh_turnSet_7, u_Sh_turnSet_10, u_Sh_turnSet_11, u_Sh_turnSet_14, u_Sh_turnSet_15, u_Sh_turnSet_16, u_Sh_turnSet_17, u_Sh_turnSet_20, u_Sh_turnSet_72, u_Sh_turnSet_73, u_Sh_turnSet_74, u_Sh_turnSet_75, u_Sh_turnSet_78, u_Sh_turnSet_81, u_Sh_turnSet_82, u_Sh_turnSet_83, u_Sh_turnSet_86, u_Sh_turnSet_87, u_Sh_turnSet_90, u_Sh_turnSet_91, u_Sh_turnSet_94, u_Sh_turnSet_95, u_Sh_turnSet_98, u_Sh_turnSet_101, u_Sh_turnSet_104, u_Sh_turnSet_105, u_Sh_turnSet_106, u_Sh_turnSet_108, u_Sh_turnSet_111, u_Sh_turnSet_112, u_Sh_turnSet_115, u_Sh_turnSet_117, u_Sh_turnSet_120, u_Sh_turnSet_175, h1_18, gt_18_0, gt_18_1, xT_h1, ne_eq, not_false_eq_true, not_true_eq_false, true_and, and_true, true_or, or_true, eq_self, Option.toList_some, Option.toList_none, List.cons_append, List.nil_append, tc_0, tc_I, tc_L, tc_A, Nat.reduceAdd, Nat.reduceLeDiff, Nat.reduceEqDiff, Int.reduceEq, Int.reduceLT, Int.reduceLE, Int.reduceNeg, Int.reduceToNat, Int.cast_ofNat_Int, if_true, if_false, and_self, or_self, ite_self, bI_0, bI_1, bI_01, Bool.false_eq_true, reduceCtorEq, hf, hi, a0, b0, hT, hTa, N1, s_Tx_body hT (S l).h9, (S l).h5, O1, bB_f, I1, hin, decide_false, P1, D2, D3, A1, D5]
end
